/-! duty, dutyOf, stands, may, dislike, hold, open -/
theorem MKaddD {w w' : Nat → Int32} {S : BS} (hM : MK w S) {dd kk : Nat} (hdd : dd ≤ 365) (hkk : kk < 4) (hn : S 1 0 0 < 24) (h2 : w' 2 = nI (S 1 0 0 + 1)) (h10 : w' (251 + S 1 0 0) = nI dd) (h11 : w' (275 + S 1 0 0) = nI kk) (h12 : w' (299 + S 1 0 0) = -1) (h13 : ∀ p, p < 8 → w' (323 + 24 * p + S 1 0 0) = nI 0)
    (hk : ∀ j, j ≠ 2 → j ≠ 251 + S 1 0 0 → j ≠ 275 + S 1 0 0 → j ≠ 299 + S 1 0 0 → (∀ p, p < 8 → j ≠ 323 + 24 * p + S 1 0 0) → w' j = w j) : MK w' (addD S dd kk) := by
  have hnp := hM.wf.np
  have hnr := fun p (hp : p < S 0 0 0) => hM.wf.nr (p := p) (by omega)
  have o : ∀ {a b c : Nat}, a ≠ 1 → a ≠ 10 → a ≠ 11 → a ≠ 12 → addD S dd kk a b c = S a b c := fun h1 h2 h3 h4 => addD_oth h1 h2 h3 h4
  have o0 : addD S dd kk 0 0 0 = S 0 0 0 := o (by decide) (by decide) (by decide) (by decide)
  have ky : ∀ j, j < 251 → j ≠ 2 → w' j = w j := fun j h1 h2 => hk j h2 (by omega) (by omega) (by omega) (fun p hp => by omega)
  refine ⟨addD_wf hM.wf hdd hkk hn, ?_, ?_, h2, fun p hp => ?_, fun p k hp hk4 => ?_, fun p q hp hq => ?_, fun e he => ?_, fun p e hp he => ?_, MX.pos (by rw [addD_1]; omega)⟩
  · rw [o0, ky 0 (by omega) (by omega)]; exact hM.np
  · rw [o (a := 2) (by decide) (by decide) (by decide) (by decide), ky 1 (by omega) (by omega)]; exact hM.yr
  · rw [o0] at hp
    rw [o (a := 4) (by decide) (by decide) (by decide) (by decide), o (a := 3) (by decide) (by decide) (by decide) (by decide), o (a := 6) (by decide) (by decide) (by decide) (by decide), ky _ (by omega) (by omega), ky _ (by omega) (by omega), ky _ (by omega) (by omega)]
    exact ⟨hM.hN hp, hM.rk hp, hM.nr hp⟩
  · rw [o0] at hp
    rw [o (by decide) (by decide) (by decide) (by decide), ky _ (by omega) (by omega)]; exact hM.ps hp hk4
  · rw [o0] at hp
    rw [o (a := 6) (by decide) (by decide) (by decide) (by decide)] at hq
    have := hnr p hp
    rw [o (a := 7) (by decide) (by decide) (by decide) (by decide), o (a := 8) (by decide) (by decide) (by decide) (by decide), o (a := 9) (by decide) (by decide) (by decide) (by decide), ky _ (by omega) (by omega), ky _ (by omega) (by omega), ky _ (by omega) (by omega)]
    exact ⟨hM.rs hp hq, hM.ra hp hq, hM.rb hp hq⟩
  · rw [addD_1] at he
    by_cases e2 : e = S 1 0 0
    · subst e2; rw [addD_10, addD_11, addD_12]; exact ⟨h10, h11, h12⟩
    · rw [addD_old (a := 10) (by decide) e2, addD_old (a := 11) (by decide) e2, addD_old (a := 12) (by decide) e2, hk _ (by omega) (by omega) (by omega) (by omega) (fun p hp => by omega), hk _ (by omega) (by omega) (by omega) (by omega) (fun p hp => by omega), hk _ (by omega) (by omega) (by omega) (by omega) (fun p hp => by omega)]
      exact ⟨hM.dy (by omega), hM.kd (by omega), hM.ho (by omega)⟩
  · rw [o0] at hp
    rw [addD_1] at he
    rw [o (a := 13) (by decide) (by decide) (by decide) (by decide)]
    by_cases e2 : e = S 1 0 0
    · subst e2
      rw [hM.wf.dl0 (Nat.le_refl _)]; exact h13 p (by omega)
    · rw [hk _ (by omega) (by omega) (by omega) (by omega) (fun q hq => by omega)]; exact hM.dl hp (by omega)
theorem SM_adds {d : Nat} {M : Mm} {S : BS} {Q : Po} (hM : MK (M 58) S) {dd kk : Nat} (hdd : dd ≤ 365) (hkk : kk < 4) (hn : S 1 0 0 < 24) (h : ∀ M', EqO [58] M M' → MK (M' 58) (addD S dd kk) → Q M' none) : Call (d + 1) mM_adds [.ref 57, .int (nI dd), .int (nI kk)] M Q := by
  have hw := hM.wf.nd
  refine Call_of (m := mM_adds) [some (.ref 57), some (.int (nI dd)), some (.int (nI kk)), none, none] rfl (fun G => Nat.le_of_ble_eq_true rfl) (fun G => rfl) ?_
  refine g_aload_n dX10_adds_0 rfl ?_
  refine g_getr (j := 0) dX10_adds_1 gc10 rfl (by decide) rfl (by decide) fl_M_9 ?_
  refine g_iconst (nI 2) dX10_adds_4 ki_2 ?_
  refine g_iald_n dX10_adds_5 (by first | rfl | assumption) (by first | decide | assumption) (by omega) (by omega) ?_
  try simp (disch := omega) only [hM.nd]
  refine g_ist5_3 dX10_adds_6 (by decide) rfl ?_
  refine g_aload_n dX10_adds_7 rfl ?_
  refine g_getr (j := 0) dX10_adds_8 gc10 rfl (by decide) rfl (by decide) fl_M_9 ?_
  refine g_sipush (nI 251) dX10_adds_11 ks_251 ?_
  refine g_iload_n dX10_adds_14 rfl ?_
  first | refine g_iadd_n dX10_adds_15 ?_ | refine g_iadd dX10_adds_15 ?_
  refine g_iload_n dX10_adds_16 rfl ?_
  refine g_iast_n dX10_adds_17 (by first | rfl | assumption) (by first | decide | assumption) (by omega) (by omega) ?_
  refine g_aload_n dX10_adds_18 rfl ?_
  refine g_getr (j := 0) dX10_adds_19 gc10 rfl (by decide) rfl (by decide) fl_M_9 ?_
  refine g_sipush (nI 275) dX10_adds_22 ks_275 ?_
  refine g_iload_n dX10_adds_25 rfl ?_
  first | refine g_iadd_n dX10_adds_26 ?_ | refine g_iadd dX10_adds_26 ?_
  refine g_iload_n dX10_adds_27 rfl ?_
  refine g_iast_n dX10_adds_28 (by first | rfl | assumption) (by first | decide | assumption) (by omega) (by omega) ?_
  refine g_aload_n dX10_adds_29 rfl ?_
  refine g_getr (j := 0) dX10_adds_30 gc10 rfl (by decide) rfl (by decide) fl_M_9 ?_
  refine g_sipush (nI 299) dX10_adds_33 ks_299 ?_
  refine g_iload_n dX10_adds_36 rfl ?_
  first | refine g_iadd_n dX10_adds_37 ?_ | refine g_iadd dX10_adds_37 ?_
  refine g_iconst ((-1)) dX10_adds_38 ki_m1 ?_
  refine g_iast_n dX10_adds_39 (by first | rfl | assumption) (by first | decide | assumption) (by omega) (by omega) ?_
  refine g_iconst (nI 0) dX10_adds_40 ki_0 ?_
  refine g_ist5_4 dX10_adds_41 (by decide) rfl ?_
  generalize hM0 : mset (mset (mset M 58 (251 + S 1 0 0) (nI dd)) 58 (275 + S 1 0 0) (nI kk)) 58 (299 + S 1 0 0) (-1) = M0
  have g0 : ∀ j, j ≠ 251 + S 1 0 0 → j ≠ 275 + S 1 0 0 → j ≠ 299 + S 1 0 0 → M0 58 j = M 58 j := fun j h1 h2 h3 => by
    rw [← hM0, mset_off (by omega), mset_off (by omega), mset_off (by omega)]
  have g1 : M0 58 (251 + S 1 0 0) = nI dd := by rw [← hM0, mset_off (by omega), mset_off (by omega), mset_at]
  have g2 : M0 58 (275 + S 1 0 0) = nI kk := by rw [← hM0, mset_off (by omega), mset_at]
  have g3 : M0 58 (299 + S 1 0 0) = -1 := by rw [← hM0, mset_at]
  have hE0 : EqO [58] M M0 := by rw [← hM0]; exact (EqO.set (by decide)).tr ((EqO.set (by decide)).tr (EqO.set (by decide)))
  refine loop_up (P := fun i => ∀ M', EqO [58] M M' → (∀ j, (∀ p, p < 8 → j ≠ 323 + 24 * p + S 1 0 0) → M' 58 j = M0 58 j) → (∀ p, p < i → M' 58 (323 + 24 * p + S 1 0 0) = nI 0) → Go mM_adds (d + 1) Q 43 [some (.ref 57), some (.int (nI dd)), some (.int (nI kk)), some (.int (nI (S 1 0 0))), some (.int (nI i))] [] M') 8 ?_ 0 (Nat.zero_le _) M0 hE0 (fun _ _ => rfl) (fun p hp => absurd hp (by omega))
  intro i hi ih M' hE k1 k2
  have e2 : M' 58 2 = nI (S 1 0 0) := by rw [k1 2 (fun p hp => by omega), g0 2 (by omega) (by omega) (by omega)]; exact hM.nd
  refine g_iload dX10_adds_43 rfl ?_
  refine g_bipush (nI 8) dX10_adds_45 kb_8 ?_
  refine g_icmp_ge_n 73 dX10_adds_47 (by decide) (by omega) (by omega) (fun c47 => ?_) (fun c47 => ?_)
  · refine g_aload_n dX10_adds_73 rfl ?_
    refine g_getr (j := 0) dX10_adds_74 gc10 rfl (by decide) rfl (by decide) fl_M_9 ?_
    refine g_iconst (nI 2) dX10_adds_77 ki_2 ?_
    refine g_dup2 dX10_adds_78 rfl rfl ?_
    refine g_iald_n dX10_adds_79 (by first | rfl | assumption) (by first | decide | assumption) (by omega) (by omega) ?_
    try simp (disch := omega) only [mset_off, e2]
    refine g_iconst (nI 1) dX10_adds_80 ki_1 ?_
    first | refine g_iadd_n dX10_adds_81 ?_ | refine g_iadd dX10_adds_81 ?_
    refine g_iast_n dX10_adds_82 (by first | rfl | assumption) (by first | decide | assumption) (by omega) (by omega) ?_
    refine g_return dX10_adds_83 rfl ?_
    refine h (mset M' 58 2 (nI (S 1 0 0 + 1))) (hE.tr (EqO.set (by decide))) (MKaddD hM hdd hkk hn ?_ ?_ ?_ ?_ ?_ ?_)
    · rw [mset_at]
    · rw [mset_off (by omega), k1 _ (fun p hp => by omega)]; exact g1
    · rw [mset_off (by omega), k1 _ (fun p hp => by omega)]; exact g2
    · rw [mset_off (by omega), k1 _ (fun p hp => by omega)]; exact g3
    · intro p hp; rw [mset_off (by omega)]; exact k2 p (by omega)
    · intro j h2 h10 h11 h12 h13
      rw [mset_off (by omega), k1 j h13, g0 j h10 h11 h12]
  · refine g_aload_n dX10_adds_50 rfl ?_
    refine g_getr (j := 0) dX10_adds_51 gc10 rfl (by decide) rfl (by decide) fl_M_9 ?_
    refine g_sipush (nI 323) dX10_adds_54 ks_323 ?_
    refine g_bipush (nI 24) dX10_adds_57 kb_24 ?_
    refine g_iload dX10_adds_59 rfl ?_
    first | refine g_imul_n dX10_adds_61 ?_ | refine g_imul dX10_adds_61 ?_
    first | refine g_iadd_n dX10_adds_62 ?_ | refine g_iadd dX10_adds_62 ?_
    refine g_iload_n dX10_adds_63 rfl ?_
    first | refine g_iadd_n dX10_adds_64 ?_ | refine g_iadd dX10_adds_64 ?_
    refine g_iconst (nI 0) dX10_adds_65 ki_0 ?_
    refine g_iast_n dX10_adds_66 (by first | rfl | assumption) (by first | decide | assumption) (by omega) (by omega) ?_
    first | refine g_incn5_4 dX10_adds_67 ki_1 (by decide) rfl ?_ | refine g_incg5_4 (nI 1) dX10_adds_67 ki_1 (by decide) rfl ?_
    refine g_goto 43 dX10_adds_70 (by decide) ?_
    refine ih (by omega) _ (hE.tr (EqO.set (by decide))) (fun j hj => ?_) (fun p hp => ?_)
    · have := hj i (by omega)
      rw [mset_off (by omega)]; exact k1 j hj
    · by_cases e : p = i
      · subst e; rw [mset_at]
      · rw [mset_off (by omega)]; exact k2 p (by omega)
def f_duty (x k : Int32) (S : BS) : Int32 × BS := if inR k 4 = true then (if inR x 366 = true then (if S 1 0 0 = 24 then (-4, S) else (nI (S 1 0 0), addD S (v2n x) (v2n k))) else (-2, S)) else (-1, S)
theorem inR_le {x : Int32} {n : Nat} (hn : n < 2 ^ 31) (h1 : ¬ x < 0) (h2 : x ≤ nI n) : inR x (n + 1) = true := by
  rw [lt0_toInt] at h1
  rw [toInt_lenI hn] at h2
  exact decide_eq_true (by omega)
theorem inR_nle {x : Int32} {n : Nat} (hn : n < 2 ^ 31) (h2 : ¬ x ≤ nI n) : inR x (n + 1) = false := by
  rw [toInt_lenI hn] at h2
  exact decide_eq_false (by omega)
theorem SF_duty (x k : Int32) (M : Mm) (S : BS) (Q : Po) (hB : BK M S) (hH : HM S) (h : ∀ M', FrC M M' → BK M' (f_duty x k S).2 → Q M' (some (.int (f_duty x k S).1))) : Call 60 mF_duty [.ref 0, .int x, .int k] M Q := by
  have hw := hB.wf.nd
  refine Call_of (m := mF_duty) [some (.ref 0), some (.int x), some (.int k)] rfl (fun G => Nat.le_of_ble_eq_true rfl) (fun G => rfl) ?_
  refine g_iload_n dX9_duty_0 rfl ?_
  refine g_calls1 dX9_duty_1 clF_isKind ml_F_106 (Nat.le_of_ble_eq_true rfl) ?_
  refine SF_isKind k ?_
  refine g_if_ne_b 9 dX9_duty_4 (by decide) (fun c4 => ?_) (fun c4 => ?_)
  · obtain ⟨j, hj, rfl⟩ := inR_true c4
    rw [f_duty, if_pos c4, v2n_nI (show j < 2 ^ 31 by omega)] at h
    refine g_iload_n dX9_duty_9 rfl ?_
    refine g_if_lt 20 dX9_duty_10 (by decide) (fun c10 => ?_) (fun c10 => ?_)
    · rw [if_neg (by rw [inR_f1 c10]; decide)] at h
      refine g_bipush ((-2)) dX9_duty_20 kb_m2 ?_
      refine g_ireturn dX9_duty_22 rfl (by first | rfl | exact nar_bI _) ?_
      exact h M FrC.rf hB
    · refine g_iload_n dX9_duty_13 rfl ?_
      refine g_sipush (nI 365) dX9_duty_14 ks_365 ?_
      refine g_icmp_le 23 dX9_duty_17 (by decide) (fun c17 => ?_) (fun c17 => ?_)
      · have e := inR_le (n := 365) (by omega) c10 c17
        obtain ⟨u, hu, rfl⟩ := inR_true e
        rw [if_pos e, v2n_nI (show u < 2 ^ 31 by omega)] at h
        refine g_aload_n dX9_duty_23 rfl ?_
        refine g_getr (j := 0) dX9_duty_24 gc9 rfl (by decide) rfl (by decide) fl_F_13 ?_
        refine g_geti (j := 1) dX9_duty_27 gc0 rfl (by decide) rfl (by decide) fl_F_164 ?_
        try simp (disch := omega) only [hB.nd]
        refine g_bipush (nI 24) dX9_duty_30 kb_24 ?_
        refine g_icmp_lt_n 38 dX9_duty_32 (by decide) (by omega) (by omega) (fun c32 => ?_) (fun c32 => ?_)
        · rw [if_neg (by omega)] at h
          refine g_aload_n dX9_duty_38 rfl ?_
          refine g_getr (j := 0) dX9_duty_39 gc9 rfl (by decide) rfl (by decide) fl_F_13 ?_
          refine g_iload_n dX9_duty_42 rfl ?_
          refine g_iload_n dX9_duty_43 rfl ?_
          refine g_call2 dX9_duty_44 clB_addDuty ml_F_167 gc0 rfl rfl (by decide) (Nat.le_of_ble_eq_true rfl) ?_
          refine SB_addDuty hB (by omega) hj c32 (fun M' hE hB' => ?_)
          refine g_ireturn dX9_duty_47 rfl (by first | rfl | exact nar_bI _) ?_
          exact h M' (FrC.of hE (by decide)) hB'
        · rw [if_pos (by omega)] at h
          refine g_bipush ((-4)) dX9_duty_35 kb_m4 ?_
          refine g_ireturn dX9_duty_37 rfl (by first | rfl | exact nar_bI _) ?_
          exact h M FrC.rf hB
      · rw [if_neg (by rw [inR_nle (n := 365) (by omega) c17]; decide)] at h
        refine g_bipush ((-2)) dX9_duty_20 kb_m2 ?_
        refine g_ireturn dX9_duty_22 rfl (by first | rfl | exact nar_bI _) ?_
        exact h M FrC.rf hB
  · rw [f_duty, if_neg (by rw [c4]; decide)] at h
    refine g_iconst ((-1)) dX9_duty_7 ki_m1 ?_
    refine g_ireturn dX9_duty_8 rfl (by first | rfl | exact nar_bI _) ?_
    exact h M FrC.rf hB
theorem SM_duty (x k : Int32) (M : Mm) (S : BS) (Q : Po) (hM : MK (M 58) S) (hC : MC M) (hH : HM S) (h : ∀ M', FrM M M' → MK (M' 58) (f_duty x k S).2 → Q M' (some (.int (f_duty x k S).1))) : Call 60 mM_duty [.ref 57, .int x, .int k] M Q := by
  have hw := hM.wf.nd
  refine Call_of (m := mM_duty) [some (.ref 57), some (.int x), some (.int k)] rfl (fun G => Nat.le_of_ble_eq_true rfl) (fun G => rfl) ?_
  refine g_iload_n dX10_duty_0 rfl ?_
  refine g_calls1 dX10_duty_1 clM_isKind ml_M_117 (Nat.le_of_ble_eq_true rfl) ?_
  refine SM_isKind k ?_
  refine g_if_ne_b 9 dX10_duty_4 (by decide) (fun c4 => ?_) (fun c4 => ?_)
  · obtain ⟨j, hj, rfl⟩ := inR_true c4
    rw [f_duty, if_pos c4, v2n_nI (show j < 2 ^ 31 by omega)] at h
    refine g_iload_n dX10_duty_9 rfl ?_
    refine g_i2l dX10_duty_10 ?_
    refine g_lconst (0) dX10_duty_11 (by decide) ?_
    refine g_ldc2w (365) dX10_duty_12 kl_M_135 ?_
    refine g_calls3 dX10_duty_15 clM_in ml_M_68 (Nat.le_of_ble_eq_true rfl) ?_
    refine SM_in _ _ _ ?_
    rw [inJ_L (n := 366) (by decide)]
    refine g_if_ne_b 24 dX10_duty_18 (by decide) (fun c18 => ?_) (fun c18 => ?_)
    · obtain ⟨u, hu, rfl⟩ := inR_true c18
      rw [if_pos c18, v2n_nI (show u < 2 ^ 31 by omega)] at h
      refine g_aload_n dX10_duty_24 rfl ?_
      refine g_getr (j := 0) dX10_duty_25 gc10 rfl (by decide) rfl (by decide) fl_M_9 ?_
      refine g_iconst (nI 2) dX10_duty_28 ki_2 ?_
      refine g_iald_n dX10_duty_29 (by first | rfl | assumption) (by first | decide | assumption) (by omega) (by omega) ?_
      try simp (disch := omega) only [hM.nd]
      refine g_bipush (nI 24) dX10_duty_30 kb_24 ?_
      refine g_icmp_ne_n 38 dX10_duty_32 (by decide) (by omega) (by omega) (fun c32 => ?_) (fun c32 => ?_)
      · rw [if_neg c32] at h
        refine g_aload_n dX10_duty_38 rfl ?_
        refine g_iload_n dX10_duty_39 rfl ?_
        refine g_iload_n dX10_duty_40 rfl ?_
        refine g_call2 dX10_duty_41 clM_adds ml_M_137 gc10 rfl rfl (by decide) (Nat.le_of_ble_eq_true rfl) ?_
        refine SM_adds hM (by omega) hj (by omega) (fun M' hE hM' => ?_)
        have e1 : addD S u j 1 0 0 = S 1 0 0 + 1 := rfl
        refine g_aload_n dX10_duty_44 rfl ?_
        refine g_getr (j := 0) dX10_duty_45 gc10 rfl (by decide) rfl (by decide) fl_M_9 ?_
        refine g_iconst (nI 2) dX10_duty_48 ki_2 ?_
        refine g_iald_n dX10_duty_49 (by first | rfl | assumption) (by first | decide | assumption) (by omega) (by omega) ?_
        try simp (disch := omega) only [hM'.nd, e1]
        refine g_iconst (nI 1) dX10_duty_50 ki_1 ?_
        first | refine g_isub_n dX10_duty_51 (by omega) ?_ | refine g_isub dX10_duty_51 ?_
        refine g_ireturn dX10_duty_52 rfl (by first | rfl | exact nar_bI _) ?_
        rw [Nat.add_sub_cancel]
        exact h M' (FrM.of hE (by decide)) hM'
      · rw [if_pos c32] at h
        refine g_bipush ((-4)) dX10_duty_35 kb_m4 ?_
        refine g_ireturn dX10_duty_37 rfl (by first | rfl | exact nar_bI _) ?_
        exact h M FrM.rf hM
    · rw [if_neg (by rw [c18]; decide)] at h
      refine g_bipush ((-2)) dX10_duty_21 kb_m2 ?_
      refine g_ireturn dX10_duty_23 rfl (by first | rfl | exact nar_bI _) ?_
      exact h M FrM.rf hM
  · rw [f_duty, if_neg (by rw [c4]; decide)] at h
    refine g_iconst ((-1)) dX10_duty_7 ki_m1 ?_
    refine g_ireturn dX10_duty_8 rfl (by first | rfl | exact nar_bI _) ?_
    exact h M FrM.rf hM
theorem addD_HO {S : BS} (hH : HM S) {dd kk : Nat} : HM (addD S dd kk) := by
  intro d hd h8
  rw [addD_1] at hd
  by_cases e : d = S 1 0 0
  · subst e; rw [addD_12] at h8; omega
  · rw [addD_old (a := 12) (by decide) e] at h8 ⊢
    rw [may_cong (addD_oth (by decide) (by decide) (by decide) (by decide)) (addD_oth (by decide) (by decide) (by decide) (by decide)) (fun r => addD_oth (by decide) (by decide) (by decide) (by decide)) (fun r => addD_oth (by decide) (by decide) (by decide) (by decide)) (fun r => addD_oth (by decide) (by decide) (by decide) (by decide)) (addD_old (by decide) e) (addD_old (by decide) e)]
    exact hH d (by omega) h8
theorem both_duty (x k : Int32) : Both mF_duty mM_duty [.int x, .int k] := both_book (f_duty x k) (fun M S Q => SF_duty x k M S Q) (fun M S Q => SM_duty x k M S Q) (fun S hW hH => by
  unfold f_duty
  split
  · split
    · split
      · exact hH
      · exact addD_HO hH
    · exact hH
  · exact hH)
theorem SF_orNobody {d : Nat} {M : Mm} {Q : Po} {q : Nat} (hq : q ≤ 8) (h : Q M (some (.int (tH q)))) : Call (d + 1) mF_orNobody [.int (hv q)] M Q := by
  unfold tH at h
  refine Call_of (m := mF_orNobody) [some (.int (hv q))] rfl (fun G => Nat.le_of_ble_eq_true rfl) (fun G => rfl) ?_
  refine g_iload_n dX9_orNobody_0 rfl ?_
  refine g_iconst ((-1)) dX9_orNobody_1 ki_m1 ?_
  refine g_icmp_ne 10 dX9_orNobody_2 (by decide) (fun c2 => ?_) (fun c2 => ?_)
  · rw [hv_open _ hq] at c2
    rw [if_neg c2] at h
    refine g_iload_n dX9_orNobody_10 rfl ?_
    refine g_ireturn dX9_orNobody_11 rfl (by first | rfl | exact nar_bI _) ?_
    rw [show hv q = nI q by unfold hv; rw [if_neg c2]]; exact h
  · rw [hv_open _ hq] at c2
    rw [if_pos c2] at h
    refine g_bipush ((-5)) dX9_orNobody_5 kb_m5 ?_
    refine g_goto 11 dX9_orNobody_7 (by decide) ?_
    refine g_ireturn dX9_orNobody_11 rfl (by first | rfl | exact nar_bI _) ?_
    exact h
theorem plN_ex (S : BS) {e : Nat} (he : e < S 1 0 0) : ∃ k, k < S 1 0 0 ∧ sd S k = e ∧ ∀ j, j < k → sd S j ≠ e := by
  obtain ⟨k, h1, h2⟩ := sdF_onto (fun d => S 10 d 0) (S 1 0 0) e he
  obtain ⟨j, h3, h4, h5⟩ := first_of (P := fun k => sd S k = e) k h2
  exact ⟨j, by omega, h4, h5⟩
noncomputable def plN (S : BS) (e : Nat) : Nat := if h : e < S 1 0 0 then Classical.choose (plN_ex S h) else 0
theorem plN_spec {S : BS} {e : Nat} (he : e < S 1 0 0) : plN S e < S 1 0 0 ∧ sd S (plN S e) = e ∧ ∀ j, j < plN S e → sd S j ≠ e := by
  unfold plN
  rw [dif_pos he]
  exact Classical.choose_spec (plN_ex S he)
noncomputable def dov (S : BS) (e u : Nat) : Int32 := if u = 0 then nI (S 10 e 0) else if u = 1 then nI (S 11 e 0) else if u = 2 then tH (S 12 e 0) else if u = 3 then nI (plN S e) else if u = 4 then nI (whoN S e) else -1
noncomputable def f_dutyOf (x w : Int32) (S : BS) : Int32 × BS := (if inR x (S 1 0 0) = true then (if inR w 5 = true then dov S (v2n x) (v2n w) else -1) else -1, S)
theorem SF_dutyOf (x w : Int32) (M : Mm) (S : BS) (Q : Po) (hB : BK M S) (hH : HM S) (h : ∀ M', FrC M M' → BK M' (f_dutyOf x w S).2 → Q M' (some (.int (f_dutyOf x w S).1))) : Call 60 mF_dutyOf [.ref 0, .int x, .int w] M Q := by
  have hw := hB.wf.nd
  have h2 := h M FrC.rf hB
  unfold f_dutyOf at h2
  dsimp only at h2
  clear h
  refine Call_of (m := mF_dutyOf) [some (.ref 0), some (.int x), some (.int w)] rfl (fun G => Nat.le_of_ble_eq_true rfl) (fun G => rfl) ?_
  refine g_aload_n dX9_dutyOf_0 rfl ?_
  refine g_getr (j := 0) dX9_dutyOf_1 gc9 rfl (by decide) rfl (by decide) fl_F_13 ?_
  refine g_iload_n dX9_dutyOf_4 rfl ?_
  refine g_call1 dX9_dutyOf_5 clB_isDuty ml_F_176 gc0 rfl rfl (by decide) (Nat.le_of_ble_eq_true rfl) ?_
  refine SB_isDuty hB x ?_
  refine g_if_ne_b 13 dX9_dutyOf_8 (by decide) (fun c8 => ?_) (fun c8 => ?_)
  · obtain ⟨e, he, rfl⟩ := inR_true c8
    rw [if_pos c8, v2n_nI (show e < 2 ^ 31 by omega)] at h2
    have hd := hB.wf.dk (d := e) (by omega)
    refine g_iload_n dX9_dutyOf_13 rfl ?_
    by_cases h5 : inR w 5 = true
    · obtain ⟨u, hu, rfl⟩ := inR_true h5
      rw [if_pos h5, v2n_nI (by omega)] at h2
      obtain rfl | rfl | rfl | rfl | rfl : u = 0 ∨ u = 1 ∨ u = 2 ∨ u = 3 ∨ u = 4 := by omega
      · skip
        refine g_tswI (off := 34) 48 dX9_dutyOf_14 (by decide) (by decide) (by decide) (by decide) ?_
        refine g_aload_n dX9_dutyOf_48 rfl ?_
        refine g_getr (j := 0) dX9_dutyOf_49 gc9 rfl (by decide) rfl (by decide) fl_F_13 ?_
        refine g_iload_n dX9_dutyOf_52 rfl ?_
        refine g_call1 dX9_dutyOf_53 clB_dayOf ml_F_179 gc0 rfl rfl (by decide) (Nat.le_of_ble_eq_true rfl) ?_
        refine SB_dayOf hB he ?_
        refine g_ireturn dX9_dutyOf_56 rfl (by first | rfl | exact nar_bI _) ?_
        exact h2
      · skip
        refine g_tswI (off := 43) 57 dX9_dutyOf_14 (by decide) (by decide) (by decide) (by decide) ?_
        refine g_aload_n dX9_dutyOf_57 rfl ?_
        refine g_getr (j := 0) dX9_dutyOf_58 gc9 rfl (by decide) rfl (by decide) fl_F_13 ?_
        refine g_iload_n dX9_dutyOf_61 rfl ?_
        refine g_call1 dX9_dutyOf_62 clB_kindOf ml_F_182 gc0 rfl rfl (by decide) (Nat.le_of_ble_eq_true rfl) ?_
        refine SB_kindOf hB he ?_
        refine g_ireturn dX9_dutyOf_65 rfl (by first | rfl | exact nar_bI _) ?_
        exact h2
      · skip
        refine g_tswI (off := 52) 66 dX9_dutyOf_14 (by decide) (by decide) (by decide) (by decide) ?_
        refine g_aload_n dX9_dutyOf_66 rfl ?_
        refine g_getr (j := 0) dX9_dutyOf_67 gc9 rfl (by decide) rfl (by decide) fl_F_13 ?_
        refine g_iload_n dX9_dutyOf_70 rfl ?_
        refine g_call1 dX9_dutyOf_71 clB_holderOf ml_F_185 gc0 rfl rfl (by decide) (Nat.le_of_ble_eq_true rfl) ?_
        refine SB_holderOf hB he ?_
        refine g_calls1 dX9_dutyOf_74 clF_orNobody ml_F_188 (Nat.le_of_ble_eq_true rfl) ?_
        refine SF_orNobody hd.2.2 ?_
        refine g_ireturn dX9_dutyOf_77 rfl (by first | rfl | exact nar_bI _) ?_
        exact h2
      · obtain ⟨k1, k2, k3⟩ := plN_spec he
        refine g_tswI (off := 64) 78 dX9_dutyOf_14 (by decide) (by decide) (by decide) (by decide) ?_
        refine g_aload_n dX9_dutyOf_78 rfl ?_
        refine g_getr (j := 0) dX9_dutyOf_79 gc9 rfl (by decide) rfl (by decide) fl_F_13 ?_
        refine g_iload_n dX9_dutyOf_82 rfl ?_
        refine g_call1 dX9_dutyOf_83 clB_placeOf ml_F_191 gc0 rfl rfl (by decide) (Nat.le_of_ble_eq_true rfl) ?_
        refine SB_placeOf hB k1 k2 k3 ?_
        refine g_ireturn dX9_dutyOf_86 rfl (by first | rfl | exact nar_bI _) ?_
        exact h2
      · skip
        refine g_tswI (off := 73) 87 dX9_dutyOf_14 (by decide) (by decide) (by decide) (by decide) ?_
        refine g_aload_n dX9_dutyOf_87 rfl ?_
        refine g_getr (j := 0) dX9_dutyOf_88 gc9 rfl (by decide) rfl (by decide) fl_F_13 ?_
        refine g_iload_n dX9_dutyOf_91 rfl ?_
        refine g_call1 dX9_dutyOf_92 clB_countWhoMayHold ml_F_194 gc0 rfl rfl (by decide) (Nat.le_of_ble_eq_true rfl) ?_
        refine SB_countWhoMayHold hB he ?_
        refine g_ireturn dX9_dutyOf_95 rfl (by first | rfl | exact nar_bI _) ?_
        exact h2
    · rw [if_neg h5] at h2
      have hx : w.toInt < 0 ∨ 4 < w.toInt := by
        unfold inR at h5
        simp only [decide_eq_true_eq] at h5
        omega
      refine g_tswO 96 dX9_dutyOf_14 hx (by decide) ?_
      refine g_iconst ((-1)) dX9_dutyOf_96 ki_m1 ?_
      refine g_ireturn dX9_dutyOf_97 rfl (by first | rfl | exact nar_bI _) ?_
      exact h2
  · rw [if_neg (by rw [c8]; decide)] at h2
    refine g_iconst ((-1)) dX9_dutyOf_11 ki_m1 ?_
    refine g_ireturn dX9_dutyOf_12 rfl (by first | rfl | exact nar_bI _) ?_
    exact h2
theorem SM_dutyOf (x w : Int32) (M : Mm) (S : BS) (Q : Po) (hM : MK (M 58) S) (hC : MC M) (hH : HM S) (h : ∀ M', FrM M M' → MK (M' 58) (f_dutyOf x w S).2 → Q M' (some (.int (f_dutyOf x w S).1))) : Call 60 mM_dutyOf [.ref 57, .int x, .int w] M Q := by
  have hw := hM.wf.nd
  have h2 := h M FrM.rf hM
  unfold f_dutyOf at h h2
  dsimp only at h h2
  refine Call_of (m := mM_dutyOf) [some (.ref 57), some (.int x), some (.int w)] rfl (fun G => Nat.le_of_ble_eq_true rfl) (fun G => rfl) ?_
  refine g_aload_n dX10_dutyOf_0 rfl ?_
  refine g_iload_n dX10_dutyOf_1 rfl ?_
  refine g_call1 dX10_dutyOf_2 clM_isDuty ml_M_141 gc10 rfl rfl (by decide) (Nat.le_of_ble_eq_true rfl) ?_
  refine SM_isDuty hM x ?_
  refine g_if_ne_b 10 dX10_dutyOf_5 (by decide) (fun c5 => ?_) (fun c5 => ?_)
  · obtain ⟨e, he, rfl⟩ := inR_true c5
    rw [if_pos c5, v2n_nI (show e < 2 ^ 31 by omega)] at h h2
    have hd := hM.wf.dk (d := e) (by omega)
    refine g_iload_n dX10_dutyOf_10 rfl ?_
    by_cases h5 : inR w 5 = true
    · obtain ⟨u, hu, rfl⟩ := inR_true h5
      rw [if_pos h5, v2n_nI (by omega)] at h h2
      obtain rfl | rfl | rfl | rfl | rfl : u = 0 ∨ u = 1 ∨ u = 2 ∨ u = 3 ∨ u = 4 := by omega
      · skip
        refine g_tswI (off := 33) 44 dX10_dutyOf_11 (by decide) (by decide) (by decide) (by decide) ?_
        refine g_aload_n dX10_dutyOf_44 rfl ?_
        refine g_getr (j := 0) dX10_dutyOf_45 gc10 rfl (by decide) rfl (by decide) fl_M_9 ?_
        refine g_sipush (nI 251) dX10_dutyOf_48 ks_251 ?_
        refine g_iload_n dX10_dutyOf_51 rfl ?_
        first | refine g_iadd_n dX10_dutyOf_52 ?_ | refine g_iadd dX10_dutyOf_52 ?_
        refine g_iald_n dX10_dutyOf_53 (by first | rfl | assumption) (by first | decide | assumption) (by omega) (by omega) ?_
        try simp (disch := omega) only [hM.dy, hM.kd]
        refine g_ireturn dX10_dutyOf_54 rfl (by first | rfl | exact nar_bI _) ?_
        exact h2
      · skip
        refine g_tswI (off := 44) 55 dX10_dutyOf_11 (by decide) (by decide) (by decide) (by decide) ?_
        refine g_aload_n dX10_dutyOf_55 rfl ?_
        refine g_getr (j := 0) dX10_dutyOf_56 gc10 rfl (by decide) rfl (by decide) fl_M_9 ?_
        refine g_sipush (nI 275) dX10_dutyOf_59 ks_275 ?_
        refine g_iload_n dX10_dutyOf_62 rfl ?_
        first | refine g_iadd_n dX10_dutyOf_63 ?_ | refine g_iadd dX10_dutyOf_63 ?_
        refine g_iald_n dX10_dutyOf_64 (by first | rfl | assumption) (by first | decide | assumption) (by omega) (by omega) ?_
        try simp (disch := omega) only [hM.dy, hM.kd]
        refine g_ireturn dX10_dutyOf_65 rfl (by first | rfl | exact nar_bI _) ?_
        exact h2
      · skip
        refine g_tswI (off := 55) 66 dX10_dutyOf_11 (by decide) (by decide) (by decide) (by decide) ?_
        refine g_aload_n dX10_dutyOf_66 rfl ?_
        refine g_iload_n dX10_dutyOf_67 rfl ?_
        refine g_call1 dX10_dutyOf_68 clM_holder ml_M_78 gc10 rfl rfl (by decide) (Nat.le_of_ble_eq_true rfl) ?_
        refine SM_holder hM he ?_
        refine g_calls1 dX10_dutyOf_71 clM_toldHolder ml_M_144 (Nat.le_of_ble_eq_true rfl) ?_
        refine SM_toldHolder hd.2.2 ?_
        refine g_ireturn dX10_dutyOf_74 rfl (by first | rfl | exact nar_bI _) ?_
        exact h2
      · obtain ⟨k1, k2, k3⟩ := plN_spec he
        refine g_tswI (off := 64) 75 dX10_dutyOf_11 (by decide) (by decide) (by decide) (by decide) ?_
        refine g_aload_n dX10_dutyOf_75 rfl ?_
        refine g_iload_n dX10_dutyOf_76 rfl ?_
        refine g_call1 dX10_dutyOf_77 clM_placeOf ml_M_147 gc10 rfl rfl (by decide) (Nat.le_of_ble_eq_true rfl) ?_
        refine SM_placeOf hM k1 k2 k3 (fun M' hE => ?_)
        refine g_ireturn dX10_dutyOf_80 rfl (by first | rfl | exact nar_bI _) ?_
        exact h M' (FrM.of hE (by decide)) (by rw [hE 58 (by decide)]; exact hM)
      · skip
        refine g_tswI (off := 70) 81 dX10_dutyOf_11 (by decide) (by decide) (by decide) (by decide) ?_
        refine g_aload_n dX10_dutyOf_81 rfl ?_
        refine g_iload_n dX10_dutyOf_82 rfl ?_
        refine g_call1 dX10_dutyOf_83 clM_whoMay ml_M_150 gc10 rfl rfl (by decide) (Nat.le_of_ble_eq_true rfl) ?_
        refine SM_whoMay hM he ?_
        refine g_ireturn dX10_dutyOf_86 rfl (by first | rfl | exact nar_bI _) ?_
        exact h2
    · rw [if_neg h5] at h2
      have hx : w.toInt < 0 ∨ 4 < w.toInt := by
        unfold inR at h5
        simp only [decide_eq_true_eq] at h5
        omega
      refine g_tswO 87 dX10_dutyOf_11 hx (by decide) ?_
      refine g_iconst ((-1)) dX10_dutyOf_87 ki_m1 ?_
      refine g_ireturn dX10_dutyOf_88 rfl (by first | rfl | exact nar_bI _) ?_
      exact h2
  · rw [if_neg (by rw [c5]; decide)] at h2
    refine g_iconst ((-1)) dX10_dutyOf_8 ki_m1 ?_
    refine g_ireturn dX10_dutyOf_9 rfl (by first | rfl | exact nar_bI _) ?_
    exact h2
theorem both_dutyOf (x w : Int32) : Both mF_dutyOf mM_dutyOf [.int x, .int w] := both_book (f_dutyOf x w) (fun M S Q => SF_dutyOf x w M S Q) (fun M S Q => SM_dutyOf x w M S Q) (fun S hW hH => hH)
def f_stands (x : Int32) (S : BS) : Int32 × BS := (if inR x (S 1 0 0) = true then nI (sd S (v2n x)) else -1, S)
theorem SF_stands (x : Int32) (M : Mm) (S : BS) (Q : Po) (hB : BK M S) (hH : HM S) (h : ∀ M', FrC M M' → BK M' (f_stands x S).2 → Q M' (some (.int (f_stands x S).1))) : Call 60 mF_stands [.ref 0, .int x] M Q := by
  have hw := hB.wf.nd
  have h2 := h M FrC.rf hB
  unfold f_stands at h2
  dsimp only at h2
  refine Call_of (m := mF_stands) [some (.ref 0), some (.int x)] rfl (fun G => Nat.le_of_ble_eq_true rfl) (fun G => rfl) ?_
  refine g_aload_n dX9_stands_0 rfl ?_
  refine g_getr (j := 0) dX9_stands_1 gc9 rfl (by decide) rfl (by decide) fl_F_13 ?_
  refine g_iload_n dX9_stands_4 rfl ?_
  refine g_call1 dX9_stands_5 clB_isDuty ml_F_176 gc0 rfl rfl (by decide) (Nat.le_of_ble_eq_true rfl) ?_
  refine SB_isDuty hB x ?_
  refine g_if_eq_b 22 dX9_stands_8 (by decide) (fun c8 => ?_) (fun c8 => ?_)
  · rw [if_neg (by rw [c8]; decide)] at h2
    refine g_iconst ((-1)) dX9_stands_22 ki_m1 ?_
    refine g_ireturn dX9_stands_23 rfl (by first | rfl | exact nar_bI _) ?_
    exact h2
  · obtain ⟨e, he, rfl⟩ := inR_true c8
    rw [if_pos c8, v2n_nI (show e < 2 ^ 31 by omega)] at h2
    refine g_aload_n dX9_stands_11 rfl ?_
    refine g_getr (j := 0) dX9_stands_12 gc9 rfl (by decide) rfl (by decide) fl_F_13 ?_
    refine g_iload_n dX9_stands_15 rfl ?_
    refine g_call1 dX9_stands_16 clB_dutyAt ml_F_197 gc0 rfl rfl (by decide) (Nat.le_of_ble_eq_true rfl) ?_
    refine SB_dutyAt hB he ?_
    refine g_goto 23 dX9_stands_19 (by decide) ?_
    refine g_ireturn dX9_stands_23 rfl (by first | rfl | exact nar_bI _) ?_
    exact h2
theorem SM_stands (x : Int32) (M : Mm) (S : BS) (Q : Po) (hM : MK (M 58) S) (hC : MC M) (hH : HM S) (h : ∀ M', FrM M M' → MK (M' 58) (f_stands x S).2 → Q M' (some (.int (f_stands x S).1))) : Call 60 mM_stands [.ref 57, .int x] M Q := by
  have hw := hM.wf.nd
  unfold f_stands at h
  dsimp only at h
  refine Call_of (m := mM_stands) [some (.ref 57), some (.int x)] rfl (fun G => Nat.le_of_ble_eq_true rfl) (fun G => rfl) ?_
  refine g_aload_n dX10_stands_0 rfl ?_
  refine g_iload_n dX10_stands_1 rfl ?_
  refine g_call1 dX10_stands_2 clM_isDuty ml_M_141 gc10 rfl rfl (by decide) (Nat.le_of_ble_eq_true rfl) ?_
  refine SM_isDuty hM x ?_
  refine g_if_ne_b 10 dX10_stands_5 (by decide) (fun c5 => ?_) (fun c5 => ?_)
  · obtain ⟨e, he, rfl⟩ := inR_true c5
    rw [if_pos c5, v2n_nI (show e < 2 ^ 31 by omega)] at h
    refine g_aload_n dX10_stands_10 rfl ?_
    refine g_call0 dX10_stands_11 clM_lines ml_M_103 gc10 rfl rfl (by decide) (Nat.le_of_ble_eq_true rfl) ?_
    refine SM_lines hM (fun M' hE h62 => ?_)
    refine g_aload_n dX10_stands_14 rfl ?_
    refine g_getr (j := 5) dX10_stands_15 gc10 rfl (by decide) rfl (by decide) fl_M_22 ?_
    refine g_iload_n dX10_stands_18 rfl ?_
    refine g_iald_n dX10_stands_19 (by first | rfl | assumption) (by first | decide | assumption) (by omega) (by omega) ?_
    try simp (disch := omega) only [h62]
    refine g_ireturn dX10_stands_20 rfl (by first | rfl | exact nar_bI _) ?_
    exact h M' (FrM.of hE (by decide)) (by rw [hE 58 (by decide)]; exact hM)
  · rw [if_neg (by rw [c5]; decide)] at h
    refine g_iconst ((-1)) dX10_stands_8 ki_m1 ?_
    refine g_ireturn dX10_stands_9 rfl (by first | rfl | exact nar_bI _) ?_
    exact h M FrM.rf hM
theorem both_stands (x : Int32) : Both mF_stands mM_stands [.int x] := both_book (f_stands x) (fun M S Q => SF_stands x M S Q) (fun M S Q => SM_stands x M S Q) (fun S hW hH => hH)
def f_may (x y : Int32) (S : BS) : Int32 × BS := (if inR x (S 0 0 0) = true ∧ inR y (S 1 0 0) = true then bI (mayB S (v2n x) (v2n y)) else -1, S)
theorem SF_may (x y : Int32) (M : Mm) (S : BS) (Q : Po) (hB : BK M S) (hH : HM S) (h : ∀ M', FrC M M' → BK M' (f_may x y S).2 → Q M' (some (.int (f_may x y S).1))) : Call 60 mF_may [.ref 0, .int x, .int y] M Q := by
  have hw := hB.wf.nd
  have hw2 := hB.wf.np
  have h2 := h M FrC.rf hB
  unfold f_may at h2
  dsimp only at h2
  refine Call_of (m := mF_may) [some (.ref 0), some (.int x), some (.int y)] rfl (fun G => Nat.le_of_ble_eq_true rfl) (fun G => rfl) ?_
  refine g_aload_n dX9_may_0 rfl ?_
  refine g_getr (j := 0) dX9_may_1 gc9 rfl (by decide) rfl (by decide) fl_F_13 ?_
  refine g_iload_n dX9_may_4 rfl ?_
  refine g_call1 dX9_may_5 clB_isOne ml_F_91 gc0 rfl rfl (by decide) (Nat.le_of_ble_eq_true rfl) ?_
  refine SB_isOne hB x ?_
  refine g_if_eq_b 22 dX9_may_8 (by decide) (fun c8 => ?_) (fun c8 => ?_)
  · rw [if_neg (by rw [c8]; simp)] at h2
    refine g_iconst ((-1)) dX9_may_22 ki_m1 ?_
    refine g_ireturn dX9_may_23 rfl (by first | rfl | exact nar_bI _) ?_
    exact h2
  · refine g_aload_n dX9_may_11 rfl ?_
    refine g_getr (j := 0) dX9_may_12 gc9 rfl (by decide) rfl (by decide) fl_F_13 ?_
    refine g_iload_n dX9_may_15 rfl ?_
    refine g_call1 dX9_may_16 clB_isDuty ml_F_176 gc0 rfl rfl (by decide) (Nat.le_of_ble_eq_true rfl) ?_
    refine SB_isDuty hB y ?_
    refine g_if_ne_b 24 dX9_may_19 (by decide) (fun c19 => ?_) (fun c19 => ?_)
    · obtain ⟨p, hp, rfl⟩ := inR_true c8
      obtain ⟨e, he, rfl⟩ := inR_true c19
      rw [if_pos ⟨c8, c19⟩, v2n_nI (show p < 2 ^ 31 by omega), v2n_nI (show e < 2 ^ 31 by omega)] at h2
      refine g_aload_n dX9_may_24 rfl ?_
      refine g_getr (j := 0) dX9_may_25 gc9 rfl (by decide) rfl (by decide) fl_F_13 ?_
      refine g_iload_n dX9_may_28 rfl ?_
      refine g_iload_n dX9_may_29 rfl ?_
      refine g_call2 dX9_may_30 clB_mayHold ml_F_200 gc0 rfl rfl (by decide) (Nat.le_of_ble_eq_true rfl) ?_
      refine SB_mayHold hB (by omega) he ?_
      refine g_if_eq_b 40 dX9_may_33 (by decide) (fun c33 => ?_) (fun c33 => ?_)
      · rw [c33] at h2
        refine g_iconst (nI 0) dX9_may_40 ki_0 ?_
        refine g_ireturn dX9_may_41 rfl (by first | rfl | exact nar_bI _) ?_
        exact h2
      · rw [c33] at h2
        refine g_iconst (nI 1) dX9_may_36 ki_1 ?_
        refine g_goto 41 dX9_may_37 (by decide) ?_
        refine g_ireturn dX9_may_41 rfl (by first | rfl | exact nar_bI _) ?_
        exact h2
    · rw [if_neg (by rw [c19]; simp)] at h2
      refine g_iconst ((-1)) dX9_may_22 ki_m1 ?_
      refine g_ireturn dX9_may_23 rfl (by first | rfl | exact nar_bI _) ?_
      exact h2
theorem SM_may (x y : Int32) (M : Mm) (S : BS) (Q : Po) (hM : MK (M 58) S) (hC : MC M) (hH : HM S) (h : ∀ M', FrM M M' → MK (M' 58) (f_may x y S).2 → Q M' (some (.int (f_may x y S).1))) : Call 60 mM_may [.ref 57, .int x, .int y] M Q := by
  have hw := hM.wf.nd
  have hw2 := hM.wf.np
  have h2 := h M FrM.rf hM
  unfold f_may at h2
  dsimp only at h2
  refine Call_of (m := mM_may) [some (.ref 57), some (.int x), some (.int y)] rfl (fun G => Nat.le_of_ble_eq_true rfl) (fun G => rfl) ?_
  refine g_aload_n dX10_may_0 rfl ?_
  refine g_iload_n dX10_may_1 rfl ?_
  refine g_call1 dX10_may_2 clM_isOne ml_M_72 gc10 rfl rfl (by decide) (Nat.le_of_ble_eq_true rfl) ?_
  refine SM_isOne hM x ?_
  refine g_if_eq_b 16 dX10_may_5 (by decide) (fun c5 => ?_) (fun c5 => ?_)
  · rw [if_neg (by rw [c5]; simp)] at h2
    refine g_iconst ((-1)) dX10_may_16 ki_m1 ?_
    refine g_goto 34 dX10_may_17 (by decide) ?_
    refine g_ireturn dX10_may_34 rfl (by first | rfl | exact nar_bI _) ?_
    exact h2
  · refine g_aload_n dX10_may_8 rfl ?_
    refine g_iload_n dX10_may_9 rfl ?_
    refine g_call1 dX10_may_10 clM_isDuty ml_M_141 gc10 rfl rfl (by decide) (Nat.le_of_ble_eq_true rfl) ?_
    refine SM_isDuty hM y ?_
    refine g_if_ne_b 20 dX10_may_13 (by decide) (fun c13 => ?_) (fun c13 => ?_)
    · obtain ⟨p, hp, rfl⟩ := inR_true c5
      obtain ⟨e, he, rfl⟩ := inR_true c13
      rw [if_pos ⟨c5, c13⟩, v2n_nI (show p < 2 ^ 31 by omega), v2n_nI (show e < 2 ^ 31 by omega)] at h2
      refine g_aload_n dX10_may_20 rfl ?_
      refine g_iload_n dX10_may_21 rfl ?_
      refine g_iload_n dX10_may_22 rfl ?_
      refine g_call2 dX10_may_23 clM_mayHold ml_M_113 gc10 rfl rfl (by decide) (Nat.le_of_ble_eq_true rfl) ?_
      refine SM_mayHold hM (by omega) he ?_
      refine g_if_eq_b 33 dX10_may_26 (by decide) (fun c26 => ?_) (fun c26 => ?_)
      · rw [c26] at h2
        refine g_iconst (nI 0) dX10_may_33 ki_0 ?_
        refine g_ireturn dX10_may_34 rfl (by first | rfl | exact nar_bI _) ?_
        exact h2
      · rw [c26] at h2
        refine g_iconst (nI 1) dX10_may_29 ki_1 ?_
        refine g_goto 34 dX10_may_30 (by decide) ?_
        refine g_ireturn dX10_may_34 rfl (by first | rfl | exact nar_bI _) ?_
        exact h2
    · rw [if_neg (by rw [c13]; simp)] at h2
      refine g_iconst ((-1)) dX10_may_16 ki_m1 ?_
      refine g_goto 34 dX10_may_17 (by decide) ?_
      refine g_ireturn dX10_may_34 rfl (by first | rfl | exact nar_bI _) ?_
      exact h2
theorem both_may (x y : Int32) : Both mF_may mM_may [.int x, .int y] := both_book (f_may x y) (fun M S Q => SF_may x y M S Q) (fun M S Q => SM_may x y M S Q) (fun S hW hH => hH)
def f_dislike (x y v : Int32) (S : BS) : Int32 × BS := if inR x (S 0 0 0) = true ∧ inR y (S 1 0 0) = true then (if inR v 10 = true then (nI (S 13 (v2n x) (v2n y)), up S 13 (v2n x) (v2n y) (v2n v)) else (-2, S)) else (-1, S)
theorem WFdl {S : BS} (hW : WF S) {p e v : Nat} (he : e < S 1 0 0) (hv : v ≤ 9) : WF (up S 13 p e v) := by
  obtain ⟨b1, b2, b3, b4, b5, b6, b7, b8, b9, b10, b11⟩ := hW
  refine ⟨b1, b2, b3, b4, b5, b6, b7, b8, b9, fun q d hq hd => ?_, fun q d hd => ?_⟩
  · by_cases z : q = p ∧ d = e
    · obtain ⟨rfl, rfl⟩ := z; rw [up_at]; exact hv
    · rw [up_off (by omega)]; exact b10 q d hq hd
  · have hd2 : S 1 0 0 ≤ d := hd
    rw [up_off (by omega)]; exact b11 q d hd
theorem BKdl1 {M : Mm} {S : BS} (hB : BK M S) {p e v : Nat} (hp : p < S 0 0 0) (he : e < S 1 0 0) (hv : v ≤ 9) : BK (mset M 13 (p * 24 + e) (nI v)) (up S 13 p e v) := by
  have hw2 := hB.wf.nd
  have hW := WFdl hB.wf (p := p) he hv
  obtain ⟨w, a1, a2, a3, a4, a5, a6, a7, a8, a9, a10, a11⟩ := hB
  refine ⟨hW, a1, a2, a3, a4, a5, a6, a7, a8, a9, a10, fun q d hq hd => ?_⟩
  by_cases z : q = p ∧ d = e
  · obtain ⟨rfl, rfl⟩ := z; rw [mset_at, up_at]
  · rw [mset_off (by omega), up_off (by omega)]; exact a11 q d hq hd
theorem MKdl1 {w : Nat → Int32} {S : BS} (hM : MK w S) {p e v : Nat} (hp : p < S 0 0 0) (he : e < S 1 0 0) (hv : v ≤ 9) : MK (upd w (323 + 24 * p + e) (nI v)) (up S 13 p e v) := by
  have hnp := hM.wf.np
  have hnd := hM.wf.nd
  have hnr := fun p (hp : p < S 0 0 0) => hM.wf.nr (p := p) (by omega)
  have hW := WFdl hM.wf (p := p) he hv
  obtain ⟨w0, a1, a2, a3, a4, a5, a6, a7, a8, a9⟩ := hM
  have ky : ∀ j, j ≠ 323 + 24 * p + e → upd w (323 + 24 * p + e) (nI v) j = w j := fun j hj => upd_off hj
  refine ⟨hW, by rw [ky 0 (by omega)]; exact a1, by rw [ky 1 (by omega)]; exact a2, by rw [ky 2 (by omega)]; exact a3, fun q hq => ?_, fun q j hq hj => ?_, fun q j hq hj => ?_, fun d hd => ?_, fun q d hq hd => ?_, MX.pos (show 0 < S 1 0 0 by omega)⟩
  · have hq2 : q < S 0 0 0 := hq
    rw [ky (3 + q) (by omega), ky (11 + q) (by omega), ky (51 + q) (by omega)]; exact a4 q hq
  · have hq2 : q < S 0 0 0 := hq
    rw [ky _ (by omega)]; exact a5 q j hq hj
  · have hq2 : q < S 0 0 0 := hq
    have := hnr q hq2
    have hj2 : j < S 6 q 0 := hj
    rw [ky _ (by omega), ky _ (by omega), ky _ (by omega)]; exact a6 q j hq hj
  · have he2 : d < S 1 0 0 := hd
    rw [ky _ (by omega), ky _ (by omega), ky _ (by omega)]; exact a7 d hd
  · have he2 : d < S 1 0 0 := hd
    by_cases z : q = p ∧ d = e
    · obtain ⟨rfl, rfl⟩ := z; rw [upd_at, up_at]
    · rw [ky _ (by omega), up_off (by omega)]; exact a8 q d hq hd
theorem SF_dislike (x y v : Int32) (M : Mm) (S : BS) (Q : Po) (hB : BK M S) (hH : HM S) (h : ∀ M', FrC M M' → BK M' (f_dislike x y v S).2 → Q M' (some (.int (f_dislike x y v S).1))) : Call 60 mF_dislike [.ref 0, .int x, .int y, .int v] M Q := by
  have hw := hB.wf.nd
  have hw2 := hB.wf.np
  refine Call_of (m := mF_dislike) [some (.ref 0), some (.int x), some (.int y), some (.int v), none] rfl (fun G => Nat.le_of_ble_eq_true rfl) (fun G => rfl) ?_
  refine g_aload_n dX9_dislike_0 rfl ?_
  refine g_getr (j := 0) dX9_dislike_1 gc9 rfl (by decide) rfl (by decide) fl_F_13 ?_
  refine g_iload_n dX9_dislike_4 rfl ?_
  refine g_call1 dX9_dislike_5 clB_isOne ml_F_91 gc0 rfl rfl (by decide) (Nat.le_of_ble_eq_true rfl) ?_
  refine SB_isOne hB x ?_
  refine g_if_eq_b 22 dX9_dislike_8 (by decide) (fun c8 => ?_) (fun c8 => ?_)
  · rw [f_dislike, if_neg (by rw [c8]; simp)] at h
    refine g_iconst ((-1)) dX9_dislike_22 ki_m1 ?_
    refine g_ireturn dX9_dislike_23 rfl (by first | rfl | exact nar_bI _) ?_
    exact h M FrC.rf hB
  · refine g_aload_n dX9_dislike_11 rfl ?_
    refine g_getr (j := 0) dX9_dislike_12 gc9 rfl (by decide) rfl (by decide) fl_F_13 ?_
    refine g_iload_n dX9_dislike_15 rfl ?_
    refine g_call1 dX9_dislike_16 clB_isDuty ml_F_176 gc0 rfl rfl (by decide) (Nat.le_of_ble_eq_true rfl) ?_
    refine SB_isDuty hB y ?_
    refine g_if_ne_b 24 dX9_dislike_19 (by decide) (fun c19 => ?_) (fun c19 => ?_)
    · obtain ⟨p, hp, rfl⟩ := inR_true c8
      obtain ⟨e, he, rfl⟩ := inR_true c19
      rw [f_dislike, if_pos ⟨c8, c19⟩, v2n_nI (show p < 2 ^ 31 by omega), v2n_nI (show e < 2 ^ 31 by omega)] at h
      refine g_iload_n dX9_dislike_24 rfl ?_
      refine g_if_lt 34 dX9_dislike_25 (by decide) (fun c25 => ?_) (fun c25 => ?_)
      · rw [if_neg (by rw [inR_f1 c25]; decide)] at h
        refine g_bipush ((-2)) dX9_dislike_34 kb_m2 ?_
        refine g_ireturn dX9_dislike_36 rfl (by first | rfl | exact nar_bI _) ?_
        exact h M FrC.rf hB
      · refine g_iload_n dX9_dislike_28 rfl ?_
        refine g_bipush (nI 9) dX9_dislike_29 kb_9 ?_
        refine g_icmp_le 37 dX9_dislike_31 (by decide) (fun c31 => ?_) (fun c31 => ?_)
        · have z := inR_le (n := 9) (by omega) c25 c31
          obtain ⟨u, hu, rfl⟩ := inR_true z
          rw [if_pos z, v2n_nI (show u < 2 ^ 31 by omega)] at h
          refine g_aload_n dX9_dislike_37 rfl ?_
          refine g_getr (j := 0) dX9_dislike_38 gc9 rfl (by decide) rfl (by decide) fl_F_13 ?_
          refine g_iload_n dX9_dislike_41 rfl ?_
          refine g_iload_n dX9_dislike_42 rfl ?_
          refine g_call2 dX9_dislike_43 clB_dislikeOf ml_F_203 gc0 rfl rfl (by decide) (Nat.le_of_ble_eq_true rfl) ?_
          refine SB_dislikeP hB hp he ?_
          refine g_ist5_4 dX9_dislike_46 (by decide) rfl ?_
          refine g_aload_n dX9_dislike_48 rfl ?_
          refine g_getr (j := 0) dX9_dislike_49 gc9 rfl (by decide) rfl (by decide) fl_F_13 ?_
          refine g_iload_n dX9_dislike_52 rfl ?_
          refine g_iload_n dX9_dislike_53 rfl ?_
          refine g_iload_n dX9_dislike_54 rfl ?_
          refine g_call3 dX9_dislike_55 clB_putDislike ml_F_206 gc0 rfl rfl (by decide) (Nat.le_of_ble_eq_true rfl) ?_
          refine SB_putDislike hB hp he ?_
          refine g_iload dX9_dislike_58 rfl ?_
          refine g_ireturn dX9_dislike_60 rfl (by first | rfl | exact nar_bI _) ?_
          exact h _ (FrC.of (EqO.set (L := [13]) (by decide)) (by decide)) (BKdl1 hB hp he (by omega))
        · rw [if_neg (by rw [inR_nle (n := 9) (by omega) c31]; decide)] at h
          refine g_bipush ((-2)) dX9_dislike_34 kb_m2 ?_
          refine g_ireturn dX9_dislike_36 rfl (by first | rfl | exact nar_bI _) ?_
          exact h M FrC.rf hB
    · rw [f_dislike, if_neg (by rw [c19]; simp)] at h
      refine g_iconst ((-1)) dX9_dislike_22 ki_m1 ?_
      refine g_ireturn dX9_dislike_23 rfl (by first | rfl | exact nar_bI _) ?_
      exact h M FrC.rf hB
theorem SM_dislike (x y v : Int32) (M : Mm) (S : BS) (Q : Po) (hM : MK (M 58) S) (hC : MC M) (hH : HM S) (h : ∀ M', FrM M M' → MK (M' 58) (f_dislike x y v S).2 → Q M' (some (.int (f_dislike x y v S).1))) : Call 60 mM_dislike [.ref 57, .int x, .int y, .int v] M Q := by
  have hw := hM.wf.nd
  have hw2 := hM.wf.np
  refine Call_of (m := mM_dislike) [some (.ref 57), some (.int x), some (.int y), some (.int v), none, none] rfl (fun G => Nat.le_of_ble_eq_true rfl) (fun G => rfl) ?_
  refine g_aload_n dX10_dislike_0 rfl ?_
  refine g_iload_n dX10_dislike_1 rfl ?_
  refine g_call1 dX10_dislike_2 clM_isOne ml_M_72 gc10 rfl rfl (by decide) (Nat.le_of_ble_eq_true rfl) ?_
  refine SM_isOne hM x ?_
  refine g_if_eq_b 16 dX10_dislike_5 (by decide) (fun c5 => ?_) (fun c5 => ?_)
  · rw [f_dislike, if_neg (by rw [c5]; simp)] at h
    refine g_iconst ((-1)) dX10_dislike_16 ki_m1 ?_
    refine g_ireturn dX10_dislike_17 rfl (by first | rfl | exact nar_bI _) ?_
    exact h M FrM.rf hM
  · refine g_aload_n dX10_dislike_8 rfl ?_
    refine g_iload_n dX10_dislike_9 rfl ?_
    refine g_call1 dX10_dislike_10 clM_isDuty ml_M_141 gc10 rfl rfl (by decide) (Nat.le_of_ble_eq_true rfl) ?_
    refine SM_isDuty hM y ?_
    refine g_if_ne_b 18 dX10_dislike_13 (by decide) (fun c13 => ?_) (fun c13 => ?_)
    · obtain ⟨p, hp, rfl⟩ := inR_true c5
      obtain ⟨e, he, rfl⟩ := inR_true c13
      rw [f_dislike, if_pos ⟨c5, c13⟩, v2n_nI (show p < 2 ^ 31 by omega), v2n_nI (show e < 2 ^ 31 by omega)] at h
      refine g_iload_n dX10_dislike_18 rfl ?_
      refine g_i2l dX10_dislike_19 ?_
      refine g_lconst (0) dX10_dislike_20 (by decide) ?_
      refine g_ldc2w (9) dX10_dislike_21 kl_M_153 ?_
      refine g_calls3 dX10_dislike_24 clM_in ml_M_68 (Nat.le_of_ble_eq_true rfl) ?_
      refine SM_in _ _ _ ?_
      rw [inJ_L (n := 10) (by decide)]
      refine g_if_ne_b 33 dX10_dislike_27 (by decide) (fun c27 => ?_) (fun c27 => ?_)
      · obtain ⟨u, hu, rfl⟩ := inR_true c27
        rw [if_pos c27, v2n_nI (show u < 2 ^ 31 by omega)] at h
        refine g_sipush (nI 323) dX10_dislike_33 ks_323 ?_
        refine g_bipush (nI 24) dX10_dislike_36 kb_24 ?_
        refine g_iload_n dX10_dislike_38 rfl ?_
        first | refine g_imul_n dX10_dislike_39 ?_ | refine g_imul dX10_dislike_39 ?_
        first | refine g_iadd_n dX10_dislike_40 ?_ | refine g_iadd dX10_dislike_40 ?_
        refine g_iload_n dX10_dislike_41 rfl ?_
        first | refine g_iadd_n dX10_dislike_42 ?_ | refine g_iadd dX10_dislike_42 ?_
        refine g_ist6_4 dX10_dislike_43 (by decide) rfl ?_
        refine g_aload_n dX10_dislike_45 rfl ?_
        refine g_getr (j := 0) dX10_dislike_46 gc10 rfl (by decide) rfl (by decide) fl_M_9 ?_
        refine g_iload dX10_dislike_49 rfl ?_
        refine g_iald_n dX10_dislike_51 (by first | rfl | assumption) (by first | decide | assumption) (by omega) (by omega) ?_
        try simp (disch := omega) only [hM.dl]
        refine g_ist6_5 dX10_dislike_52 (by decide) rfl ?_
        refine g_aload_n dX10_dislike_54 rfl ?_
        refine g_getr (j := 0) dX10_dislike_55 gc10 rfl (by decide) rfl (by decide) fl_M_9 ?_
        refine g_iload dX10_dislike_58 rfl ?_
        refine g_iload_n dX10_dislike_60 rfl ?_
        refine g_iast_n dX10_dislike_61 (by first | rfl | assumption) (by first | decide | assumption) (by omega) (by omega) ?_
        refine g_iload dX10_dislike_62 rfl ?_
        refine g_ireturn dX10_dislike_64 rfl (by first | rfl | exact nar_bI _) ?_
        refine h _ (FrM.of (EqO.set (L := [58]) (by decide)) (by decide)) ?_
        rw [mset_row]
        exact MKdl1 hM hp he (by omega)
      · rw [if_neg (by rw [c27]; decide)] at h
        refine g_bipush ((-2)) dX10_dislike_30 kb_m2 ?_
        refine g_ireturn dX10_dislike_32 rfl (by first | rfl | exact nar_bI _) ?_
        exact h M FrM.rf hM
    · rw [f_dislike, if_neg (by rw [c13]; simp)] at h
      refine g_iconst ((-1)) dX10_dislike_16 ki_m1 ?_
      refine g_ireturn dX10_dislike_17 rfl (by first | rfl | exact nar_bI _) ?_
      exact h M FrM.rf hM
theorem HO_up {S : BS} (hH : HM S) {f i j v : Nat} (hf : f = 13) : HM (up S f i j v) := by
  intro d hd h8
  subst hf
  rw [up_off (by omega)] at hd
  have e12 : up S 13 i j v 12 d 0 = S 12 d 0 := up_off (by omega)
  rw [e12] at h8 ⊢
  rw [may_cong (up_off (by omega)) (up_off (by omega)) (fun r => up_off (by omega)) (fun r => up_off (by omega)) (fun r => up_off (by omega)) (up_off (by omega)) (up_off (by omega))]
  exact hH d hd h8
theorem both_dislike (x y v : Int32) : Both mF_dislike mM_dislike [.int x, .int y, .int v] := both_book (f_dislike x y v) (fun M S Q => SF_dislike x y v M S Q) (fun M S Q => SM_dislike x y v M S Q) (fun S hW hH => by
  unfold f_dislike
  split
  · split
    · exact HO_up hH rfl
    · exact hH
  · exact hH)
def f_hold (y x : Int32) (S : BS) : Int32 × BS := if inR y (S 1 0 0) = true ∧ inR x (S 0 0 0) = true then (if mayB S (v2n x) (v2n y) = true then (tH (S 12 (v2n y) 0), up S 12 (v2n y) 0 (v2n x)) else (-7, S)) else (-1, S)
theorem SF_hold (y x : Int32) (M : Mm) (S : BS) (Q : Po) (hB : BK M S) (hH : HM S) (h : ∀ M', FrC M M' → BK M' (f_hold y x S).2 → Q M' (some (.int (f_hold y x S).1))) : Call 60 mF_hold [.ref 0, .int y, .int x] M Q := by
  have hw := hB.wf.nd
  have hw2 := hB.wf.np
  refine Call_of (m := mF_hold) [some (.ref 0), some (.int y), some (.int x), none] rfl (fun G => Nat.le_of_ble_eq_true rfl) (fun G => rfl) ?_
  refine g_aload_n dX9_hold_0 rfl ?_
  refine g_getr (j := 0) dX9_hold_1 gc9 rfl (by decide) rfl (by decide) fl_F_13 ?_
  refine g_iload_n dX9_hold_4 rfl ?_
  refine g_call1 dX9_hold_5 clB_isDuty ml_F_176 gc0 rfl rfl (by decide) (Nat.le_of_ble_eq_true rfl) ?_
  refine SB_isDuty hB y ?_
  refine g_if_eq_b 22 dX9_hold_8 (by decide) (fun c8 => ?_) (fun c8 => ?_)
  · rw [f_hold, if_neg (by rw [c8]; simp)] at h
    refine g_iconst ((-1)) dX9_hold_22 ki_m1 ?_
    refine g_ireturn dX9_hold_23 rfl (by first | rfl | exact nar_bI _) ?_
    exact h M FrC.rf hB
  · refine g_aload_n dX9_hold_11 rfl ?_
    refine g_getr (j := 0) dX9_hold_12 gc9 rfl (by decide) rfl (by decide) fl_F_13 ?_
    refine g_iload_n dX9_hold_15 rfl ?_
    refine g_call1 dX9_hold_16 clB_isOne ml_F_91 gc0 rfl rfl (by decide) (Nat.le_of_ble_eq_true rfl) ?_
    refine SB_isOne hB x ?_
    refine g_if_ne_b 24 dX9_hold_19 (by decide) (fun c19 => ?_) (fun c19 => ?_)
    · obtain ⟨e, he, rfl⟩ := inR_true c8
      obtain ⟨p, hp, rfl⟩ := inR_true c19
      rw [f_hold, if_pos ⟨c8, c19⟩, v2n_nI (show p < 2 ^ 31 by omega), v2n_nI (show e < 2 ^ 31 by omega)] at h
      have hd := hB.wf.dk (d := e) (by omega)
      refine g_aload_n dX9_hold_24 rfl ?_
      refine g_getr (j := 0) dX9_hold_25 gc9 rfl (by decide) rfl (by decide) fl_F_13 ?_
      refine g_iload_n dX9_hold_28 rfl ?_
      refine g_iload_n dX9_hold_29 rfl ?_
      refine g_call2 dX9_hold_30 clB_mayHold ml_F_200 gc0 rfl rfl (by decide) (Nat.le_of_ble_eq_true rfl) ?_
      refine SB_mayHold hB (by omega) he ?_
      refine g_if_ne_b 39 dX9_hold_33 (by decide) (fun c33 => ?_) (fun c33 => ?_)
      · rw [if_pos c33] at h
        refine g_aload_n dX9_hold_39 rfl ?_
        refine g_getr (j := 0) dX9_hold_40 gc9 rfl (by decide) rfl (by decide) fl_F_13 ?_
        refine g_iload_n dX9_hold_43 rfl ?_
        refine g_call1 dX9_hold_44 clB_holderOf ml_F_185 gc0 rfl rfl (by decide) (Nat.le_of_ble_eq_true rfl) ?_
        refine SB_holderOf hB he ?_
        refine g_ist4_3 dX9_hold_47 (by decide) rfl ?_
        refine g_aload_n dX9_hold_48 rfl ?_
        refine g_getr (j := 0) dX9_hold_49 gc9 rfl (by decide) rfl (by decide) fl_F_13 ?_
        refine g_iload_n dX9_hold_52 rfl ?_
        refine g_iload_n dX9_hold_53 rfl ?_
        refine g_call2 dX9_hold_54 clB_putHolder ml_F_209 gc0 rfl rfl (by decide) (Nat.le_of_ble_eq_true rfl) ?_
        refine SB_putHolder hB he ?_
        refine g_iload_n dX9_hold_57 rfl ?_
        refine g_calls1 dX9_hold_58 clF_orNobody ml_F_188 (Nat.le_of_ble_eq_true rfl) ?_
        refine SF_orNobody hd.2.2 ?_
        refine g_ireturn dX9_hold_61 rfl (by first | rfl | exact nar_bI _) ?_
        refine h _ (FrC.of (EqO.set (L := [2]) (by decide)) (by decide)) ?_
        rw [← hv_p (p := p) (by omega)]
        exact hB.hol1 he (by omega)
      · rw [if_neg (by rw [c33]; decide)] at h
        refine g_bipush ((-7)) dX9_hold_36 kb_m7 ?_
        refine g_ireturn dX9_hold_38 rfl (by first | rfl | exact nar_bI _) ?_
        exact h M FrC.rf hB
    · rw [f_hold, if_neg (by rw [c19]; simp)] at h
      refine g_iconst ((-1)) dX9_hold_22 ki_m1 ?_
      refine g_ireturn dX9_hold_23 rfl (by first | rfl | exact nar_bI _) ?_
      exact h M FrC.rf hB
theorem SM_hold (y x : Int32) (M : Mm) (S : BS) (Q : Po) (hM : MK (M 58) S) (hC : MC M) (hH : HM S) (h : ∀ M', FrM M M' → MK (M' 58) (f_hold y x S).2 → Q M' (some (.int (f_hold y x S).1))) : Call 60 mM_hold [.ref 57, .int y, .int x] M Q := by
  have hw := hM.wf.nd
  have hw2 := hM.wf.np
  refine Call_of (m := mM_hold) [some (.ref 57), some (.int y), some (.int x), none] rfl (fun G => Nat.le_of_ble_eq_true rfl) (fun G => rfl) ?_
  refine g_aload_n dX10_hold_0 rfl ?_
  refine g_iload_n dX10_hold_1 rfl ?_
  refine g_call1 dX10_hold_2 clM_isDuty ml_M_141 gc10 rfl rfl (by decide) (Nat.le_of_ble_eq_true rfl) ?_
  refine SM_isDuty hM y ?_
  refine g_if_eq_b 16 dX10_hold_5 (by decide) (fun c5 => ?_) (fun c5 => ?_)
  · rw [f_hold, if_neg (by rw [c5]; simp)] at h
    refine g_iconst ((-1)) dX10_hold_16 ki_m1 ?_
    refine g_ireturn dX10_hold_17 rfl (by first | rfl | exact nar_bI _) ?_
    exact h M FrM.rf hM
  · refine g_aload_n dX10_hold_8 rfl ?_
    refine g_iload_n dX10_hold_9 rfl ?_
    refine g_call1 dX10_hold_10 clM_isOne ml_M_72 gc10 rfl rfl (by decide) (Nat.le_of_ble_eq_true rfl) ?_
    refine SM_isOne hM x ?_
    refine g_if_ne_b 18 dX10_hold_13 (by decide) (fun c13 => ?_) (fun c13 => ?_)
    · obtain ⟨e, he, rfl⟩ := inR_true c5
      obtain ⟨p, hp, rfl⟩ := inR_true c13
      rw [f_hold, if_pos ⟨c5, c13⟩, v2n_nI (show p < 2 ^ 31 by omega), v2n_nI (show e < 2 ^ 31 by omega)] at h
      have hd := hM.wf.dk (d := e) (by omega)
      refine g_aload_n dX10_hold_18 rfl ?_
      refine g_iload_n dX10_hold_19 rfl ?_
      refine g_iload_n dX10_hold_20 rfl ?_
      refine g_call2 dX10_hold_21 clM_mayHold ml_M_113 gc10 rfl rfl (by decide) (Nat.le_of_ble_eq_true rfl) ?_
      refine SM_mayHold hM (by omega) he ?_
      refine g_if_ne_b 30 dX10_hold_24 (by decide) (fun c24 => ?_) (fun c24 => ?_)
      · rw [if_pos c24] at h
        refine g_aload_n dX10_hold_30 rfl ?_
        refine g_iload_n dX10_hold_31 rfl ?_
        refine g_call1 dX10_hold_32 clM_holder ml_M_78 gc10 rfl rfl (by decide) (Nat.le_of_ble_eq_true rfl) ?_
        refine SM_holder hM he ?_
        refine g_ist4_3 dX10_hold_35 (by decide) rfl ?_
        refine g_aload_n dX10_hold_36 rfl ?_
        refine g_getr (j := 0) dX10_hold_37 gc10 rfl (by decide) rfl (by decide) fl_M_9 ?_
        refine g_sipush (nI 299) dX10_hold_40 ks_299 ?_
        refine g_iload_n dX10_hold_43 rfl ?_
        first | refine g_iadd_n dX10_hold_44 ?_ | refine g_iadd dX10_hold_44 ?_
        refine g_iload_n dX10_hold_45 rfl ?_
        refine g_iast_n dX10_hold_46 (by first | rfl | assumption) (by first | decide | assumption) (by omega) (by omega) ?_
        refine g_iload_n dX10_hold_47 rfl ?_
        refine g_calls1 dX10_hold_48 clM_toldHolder ml_M_144 (Nat.le_of_ble_eq_true rfl) ?_
        refine SM_toldHolder hd.2.2 ?_
        refine g_ireturn dX10_hold_51 rfl (by first | rfl | exact nar_bI _) ?_
        refine h _ (FrM.of (EqO.set (L := [58]) (by decide)) (by decide)) ?_
        rw [mset_row, ← hv_p (p := p) (by omega)]
        exact hM.hol1 he (by omega)
      · rw [if_neg (by rw [c24]; decide)] at h
        refine g_bipush ((-7)) dX10_hold_27 kb_m7 ?_
        refine g_ireturn dX10_hold_29 rfl (by first | rfl | exact nar_bI _) ?_
        exact h M FrM.rf hM
    · rw [f_hold, if_neg (by rw [c13]; simp)] at h
      refine g_iconst ((-1)) dX10_hold_16 ki_m1 ?_
      refine g_ireturn dX10_hold_17 rfl (by first | rfl | exact nar_bI _) ?_
      exact h M FrM.rf hM
theorem HO_ho {S : BS} (hH : HM S) {e q : Nat} (hq : q < 8 → mayB S q e = true) : HM (up S 12 e 0 q) := by
  intro d hd h8
  rw [up_off (by omega)] at hd
  rw [may_ho (fun a ha => by funext b c; exact up_off (fun z => ha z.1))]
  by_cases z : d = e
  · subst z; rw [up_at] at h8 ⊢; exact hq h8
  · have e12 : up S 12 e 0 q 12 d 0 = S 12 d 0 := up_off (by omega)
    rw [e12] at h8 ⊢
    exact hH d hd h8
theorem both_hold (y x : Int32) : Both mF_hold mM_hold [.int y, .int x] := both_book (f_hold y x) (fun M S Q => SF_hold y x M S Q) (fun M S Q => SM_hold y x M S Q) (fun S hW hH => by
  unfold f_hold
  split
  · split
    · rename_i hm
      exact HO_ho hH (fun _ => hm)
    · exact hH
  · exact hH)
def f_open (y : Int32) (S : BS) : Int32 × BS := if inR y (S 1 0 0) = true then (if S 12 (v2n y) 0 = 8 then (-3, S) else (nI (S 12 (v2n y) 0), up S 12 (v2n y) 0 8)) else (-1, S)
theorem SF_open (y : Int32) (M : Mm) (S : BS) (Q : Po) (hB : BK M S) (hH : HM S) (h : ∀ M', FrC M M' → BK M' (f_open y S).2 → Q M' (some (.int (f_open y S).1))) : Call 60 mF_open [.ref 0, .int y] M Q := by
  have hw := hB.wf.nd
  refine Call_of (m := mF_open) [some (.ref 0), some (.int y), none] rfl (fun G => Nat.le_of_ble_eq_true rfl) (fun G => rfl) ?_
  refine g_aload_n dX9_open_0 rfl ?_
  refine g_getr (j := 0) dX9_open_1 gc9 rfl (by decide) rfl (by decide) fl_F_13 ?_
  refine g_iload_n dX9_open_4 rfl ?_
  refine g_call1 dX9_open_5 clB_isDuty ml_F_176 gc0 rfl rfl (by decide) (Nat.le_of_ble_eq_true rfl) ?_
  refine SB_isDuty hB y ?_
  refine g_if_ne_b 13 dX9_open_8 (by decide) (fun c8 => ?_) (fun c8 => ?_)
  · obtain ⟨e, he, rfl⟩ := inR_true c8
    rw [f_open, if_pos c8, v2n_nI (show e < 2 ^ 31 by omega)] at h
    have hd := hB.wf.dk (d := e) (by omega)
    refine g_aload_n dX9_open_13 rfl ?_
    refine g_getr (j := 0) dX9_open_14 gc9 rfl (by decide) rfl (by decide) fl_F_13 ?_
    refine g_iload_n dX9_open_17 rfl ?_
    refine g_call1 dX9_open_18 clB_holderOf ml_F_185 gc0 rfl rfl (by decide) (Nat.le_of_ble_eq_true rfl) ?_
    refine SB_holderOf hB he ?_
    refine g_ist3_2 dX9_open_21 (by decide) rfl ?_
    refine g_iload_n dX9_open_22 rfl ?_
    refine g_iconst ((-1)) dX9_open_23 ki_m1 ?_
    refine g_icmp_ne 30 dX9_open_24 (by decide) (fun c24 => ?_) (fun c24 => ?_)
    · rw [hv_open _ hd.2.2] at c24
      rw [if_neg c24] at h
      refine g_aload_n dX9_open_30 rfl ?_
      refine g_getr (j := 0) dX9_open_31 gc9 rfl (by decide) rfl (by decide) fl_F_13 ?_
      refine g_iload_n dX9_open_34 rfl ?_
      refine g_iconst ((-1)) dX9_open_35 ki_m1 ?_
      refine g_call2 dX9_open_36 clB_putHolder ml_F_209 gc0 rfl rfl (by decide) (Nat.le_of_ble_eq_true rfl) ?_
      refine SB_putHolder hB he ?_
      refine g_iload_n dX9_open_39 rfl ?_
      refine g_ireturn dX9_open_40 rfl (by first | rfl | exact nar_bI _) ?_
      rw [hv_p (by omega)]
      refine h _ (FrC.of (EqO.set (L := [2]) (by decide)) (by decide)) ?_
      rw [← hv_8]
      exact hB.hol1 he (by omega)
    · rw [hv_open _ hd.2.2] at c24
      rw [if_pos c24] at h
      refine g_bipush ((-3)) dX9_open_27 kb_m3 ?_
      refine g_ireturn dX9_open_29 rfl (by first | rfl | exact nar_bI _) ?_
      exact h M FrC.rf hB
  · rw [f_open, if_neg (by rw [c8]; decide)] at h
    refine g_iconst ((-1)) dX9_open_11 ki_m1 ?_
    refine g_ireturn dX9_open_12 rfl (by first | rfl | exact nar_bI _) ?_
    exact h M FrC.rf hB
theorem SM_open (y : Int32) (M : Mm) (S : BS) (Q : Po) (hM : MK (M 58) S) (hC : MC M) (hH : HM S) (h : ∀ M', FrM M M' → MK (M' 58) (f_open y S).2 → Q M' (some (.int (f_open y S).1))) : Call 60 mM_open [.ref 57, .int y] M Q := by
  have hw := hM.wf.nd
  refine Call_of (m := mM_open) [some (.ref 57), some (.int y), none] rfl (fun G => Nat.le_of_ble_eq_true rfl) (fun G => rfl) ?_
  refine g_aload_n dX10_open_0 rfl ?_
  refine g_iload_n dX10_open_1 rfl ?_
  refine g_call1 dX10_open_2 clM_isDuty ml_M_141 gc10 rfl rfl (by decide) (Nat.le_of_ble_eq_true rfl) ?_
  refine SM_isDuty hM y ?_
  refine g_if_ne_b 10 dX10_open_5 (by decide) (fun c5 => ?_) (fun c5 => ?_)
  · obtain ⟨e, he, rfl⟩ := inR_true c5
    rw [f_open, if_pos c5, v2n_nI (show e < 2 ^ 31 by omega)] at h
    have hd := hM.wf.dk (d := e) (by omega)
    refine g_aload_n dX10_open_10 rfl ?_
    refine g_iload_n dX10_open_11 rfl ?_
    refine g_call1 dX10_open_12 clM_holder ml_M_78 gc10 rfl rfl (by decide) (Nat.le_of_ble_eq_true rfl) ?_
    refine SM_holder hM he ?_
    refine g_ist3_2 dX10_open_15 (by decide) rfl ?_
    refine g_aload_n dX10_open_16 rfl ?_
    refine g_getr (j := 0) dX10_open_17 gc10 rfl (by decide) rfl (by decide) fl_M_9 ?_
    refine g_sipush (nI 299) dX10_open_20 ks_299 ?_
    refine g_iload_n dX10_open_23 rfl ?_
    first | refine g_iadd_n dX10_open_24 ?_ | refine g_iadd dX10_open_24 ?_
    refine g_iconst ((-1)) dX10_open_25 ki_m1 ?_
    refine g_iast_n dX10_open_26 (by first | rfl | assumption) (by first | decide | assumption) (by omega) (by omega) ?_
    refine g_iload_n dX10_open_27 rfl ?_
    refine g_if_ge 36 dX10_open_28 (by decide) (fun c28 => ?_) (fun c28 => ?_)
    · have hne : ¬ S 12 e 0 = 8 := fun z => by rw [z, hv_8] at c28; exact absurd c28 (by decide)
      rw [if_neg hne] at h
      refine g_iload_n dX10_open_36 rfl ?_
      refine g_ireturn dX10_open_37 rfl (by first | rfl | exact nar_bI _) ?_
      rw [hv_p (by omega)]
      refine h _ (FrM.of (EqO.set (L := [58]) (by decide)) (by decide)) ?_
      rw [mset_row, ← hv_8]
      exact hM.hol1 he (by omega)
    · have hne : S 12 e 0 = 8 := by
        rcases Nat.lt_or_ge (S 12 e 0) 8 with z | z
        · rw [hv_p z] at c28; exact absurd (nI_pos' (by omega)) c28
        · omega
      rw [if_pos hne] at h
      refine g_bipush ((-3)) dX10_open_31 kb_m3 ?_
      refine g_goto 37 dX10_open_33 (by decide) ?_
      refine g_ireturn dX10_open_37 rfl (by first | rfl | exact nar_bI _) ?_
      refine h _ (FrM.of (EqO.set (L := [58]) (by decide)) (by decide)) ?_
      rw [mset_row, ← hv_8]
      have := hM.hol1 (e := e) (q := 8) he (by omega)
      rw [show up S 12 e 0 8 = S from ?_] at this
      · exact this
      · funext a b c
        by_cases z : a = 12 ∧ b = e ∧ c = 0
        · obtain ⟨rfl, rfl, rfl⟩ := z; rw [up_at]; exact hne.symm
        · exact up_off z
  · rw [f_open, if_neg (by rw [c5]; decide)] at h
    refine g_iconst ((-1)) dX10_open_8 ki_m1 ?_
    refine g_ireturn dX10_open_9 rfl (by first | rfl | exact nar_bI _) ?_
    exact h M FrM.rf hM
theorem both_open (y : Int32) : Both mF_open mM_open [.int y] := both_book (f_open y) (fun M S Q => SF_open y M S Q) (fun M S Q => SM_open y M S Q) (fun S hW hH => by
  unfold f_open
  split
  · split
    · exact hH
    · exact HO_ho hH (fun h => absurd h (by decide))
  · exact hH)
