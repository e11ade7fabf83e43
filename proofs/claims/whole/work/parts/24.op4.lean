/-! duty, dutyOf, stands, may, dislike, hold, open -/
theorem MKaddD {w w' : Nat → Int32} {S : BS} (hM : MK w S) {dd kk : Nat} (hdd : dd ≤ 365) (hkk : kk < 4) (hn : S 1 0 0 < 24) (h2 : w' 2 = nI (S 1 0 0 + 1)) (h10 : w' (251 + S 1 0 0) = nI dd) (h11 : w' (275 + S 1 0 0) = nI kk) (h12 : w' (299 + S 1 0 0) = -1) (h13 : ∀ p, p < 8 → w' (323 + 24 * p + S 1 0 0) = nI 0)
    (hk : ∀ j, j ≠ 2 → j ≠ 251 + S 1 0 0 → j ≠ 275 + S 1 0 0 → j ≠ 299 + S 1 0 0 → (∀ p, p < 8 → j ≠ 323 + 24 * p + S 1 0 0) → w' j = w j) : MK w' (addD S dd kk) := by
  have hnp := hM.wf.np
  have hnr := fun p (hp : p < S 0 0 0) => hM.wf.nr (p := p) (by omega)
  have o : ∀ {a b c : Nat}, a ≠ 1 → a ≠ 10 → a ≠ 11 → a ≠ 12 → addD S dd kk a b c = S a b c := fun h1 h2 h3 h4 => addD_oth h1 h2 h3 h4
  have o0 : addD S dd kk 0 0 0 = S 0 0 0 := o (by decide) (by decide) (by decide) (by decide)
  have ky : ∀ j, j < 251 → j ≠ 2 → w' j = w j := fun j h1 h2 => hk j h2 (by omega) (by omega) (by omega) (fun p hp => by omega)
  refine ⟨addD_wf hM.wf hdd hkk hn, ?_, ?_, h2, fun p hp => ?_, fun p k hp hk4 => ?_, fun p q hp hq => ?_, fun e he => ?_, fun p e hp he => ?_⟩
  · rw [o0, ky 0 (by omega) (by omega)]; exact hM.np
  · rw [o (a := 2) (by decide) (by decide) (by decide) (by decide), ky 1 (by omega) (by omega)]; exact hM.yr
  · rw [o0] at hp
    rw [o (a := 4) (by decide) (by decide) (by decide) (by decide), o (a := 3) (by decide) (by decide) (by decide) (by decide), o (a := 6) (by decide) (by decide) (by decide) (by decide), ky _ (by omega) (by omega), ky _ (by omega) (by omega), ky _ (by omega) (by omega)]
    exact ⟨hM.hN hp, hM.rk hp, hM.nr hp⟩
  · rw [o0] at hp
    rw [o (by decide) (by decide) (by decide) (by decide), ky _ (by omega) (by omega)]; exact hM.ps hp hk4
  · rw [o0] at hp
    rw [o (a := 6) (by decide) (by decide) (by decide) (by decide)] at hq
    have := hnr p hp
    rw [o (a := 7) (by decide) (by decide) (by decide) (by decide), o (a := 8) (by decide) (by decide) (by decide) (by decide), o (a := 9) (by decide) (by decide) (by decide) (by decide), ky _ (by omega) (by omega), ky _ (by omega) (by omega), ky _ (by omega) (by omega)]
    exact ⟨hM.rs hp hq, hM.ra hp hq, hM.rb hp hq⟩
  · rw [addD_1] at he
    by_cases e2 : e = S 1 0 0
    · subst e2; rw [addD_10, addD_11, addD_12]; exact ⟨h10, h11, h12⟩
    · rw [addD_old (a := 10) (by decide) e2, addD_old (a := 11) (by decide) e2, addD_old (a := 12) (by decide) e2, hk _ (by omega) (by omega) (by omega) (by omega) (fun p hp => by omega), hk _ (by omega) (by omega) (by omega) (by omega) (fun p hp => by omega), hk _ (by omega) (by omega) (by omega) (by omega) (fun p hp => by omega)]
      exact ⟨hM.dy (by omega), hM.kd (by omega), hM.ho (by omega)⟩
  · rw [o0] at hp
    rw [addD_1] at he
    rw [o (a := 13) (by decide) (by decide) (by decide) (by decide)]
    by_cases e2 : e = S 1 0 0
    · subst e2
      rw [hM.wf.dl0 (Nat.le_refl _)]; exact h13 p (by omega)
    · rw [hk _ (by omega) (by omega) (by omega) (by omega) (fun q hq => by omega)]; exact hM.dl hp (by omega)
theorem SM_adds {d : Nat} {M : Mm} {S : BS} {Q : Po} (hM : MK (M 58) S) {dd kk : Nat} (hdd : dd ≤ 365) (hkk : kk < 4) (hn : S 1 0 0 < 24) (h : ∀ M', EqO [58] M M' → MK (M' 58) (addD S dd kk) → Q M' none) : Call (d + 1) mM_adds [.ref 57, .int (nI dd), .int (nI kk)] M Q := by
  have hw := hM.wf.nd
  refine Call_of (m := mM_adds) [some (.ref 57), some (.int (nI dd)), some (.int (nI kk)), none, none] rfl (fun G => Nat.le_of_ble_eq_true rfl) (fun G => rfl) ?_
  refine g_aload_n dX10_adds_0 rfl ?_
  refine g_getr (j := 0) dX10_adds_1 gc10 rfl (by decide) rfl (by decide) fl_M_9 ?_
  refine g_iconst (nI 2) dX10_adds_4 ki_2 ?_
  refine g_iald_n dX10_adds_5 (by first | rfl | assumption) (by first | decide | assumption) (by omega) (by omega) ?_
  try simp (disch := omega) only [hM.nd]
  refine g_ist5_3 dX10_adds_6 (by decide) rfl ?_
  refine g_aload_n dX10_adds_7 rfl ?_
  refine g_getr (j := 0) dX10_adds_8 gc10 rfl (by decide) rfl (by decide) fl_M_9 ?_
  refine g_sipush (nI 251) dX10_adds_11 ks_251 ?_
  refine g_iload_n dX10_adds_14 rfl ?_
  first | refine g_iadd_n dX10_adds_15 ?_ | refine g_iadd dX10_adds_15 ?_
  refine g_iload_n dX10_adds_16 rfl ?_
  refine g_iast_n dX10_adds_17 (by first | rfl | assumption) (by first | decide | assumption) (by omega) (by omega) ?_
  refine g_aload_n dX10_adds_18 rfl ?_
  refine g_getr (j := 0) dX10_adds_19 gc10 rfl (by decide) rfl (by decide) fl_M_9 ?_
  refine g_sipush (nI 275) dX10_adds_22 ks_275 ?_
  refine g_iload_n dX10_adds_25 rfl ?_
  first | refine g_iadd_n dX10_adds_26 ?_ | refine g_iadd dX10_adds_26 ?_
  refine g_iload_n dX10_adds_27 rfl ?_
  refine g_iast_n dX10_adds_28 (by first | rfl | assumption) (by first | decide | assumption) (by omega) (by omega) ?_
  refine g_aload_n dX10_adds_29 rfl ?_
  refine g_getr (j := 0) dX10_adds_30 gc10 rfl (by decide) rfl (by decide) fl_M_9 ?_
  refine g_sipush (nI 299) dX10_adds_33 ks_299 ?_
  refine g_iload_n dX10_adds_36 rfl ?_
  first | refine g_iadd_n dX10_adds_37 ?_ | refine g_iadd dX10_adds_37 ?_
  refine g_iconst ((-1)) dX10_adds_38 ki_m1 ?_
  refine g_iast_n dX10_adds_39 (by first | rfl | assumption) (by first | decide | assumption) (by omega) (by omega) ?_
  refine g_iconst (nI 0) dX10_adds_40 ki_0 ?_
  refine g_ist5_4 dX10_adds_41 (by decide) rfl ?_
  generalize hM0 : mset (mset (mset M 58 (251 + S 1 0 0) (nI dd)) 58 (275 + S 1 0 0) (nI kk)) 58 (299 + S 1 0 0) (-1) = M0
  have g0 : ∀ j, j ≠ 251 + S 1 0 0 → j ≠ 275 + S 1 0 0 → j ≠ 299 + S 1 0 0 → M0 58 j = M 58 j := fun j h1 h2 h3 => by
    rw [← hM0, mset_off (by omega), mset_off (by omega), mset_off (by omega)]
  have g1 : M0 58 (251 + S 1 0 0) = nI dd := by rw [← hM0, mset_off (by omega), mset_off (by omega), mset_at]
  have g2 : M0 58 (275 + S 1 0 0) = nI kk := by rw [← hM0, mset_off (by omega), mset_at]
  have g3 : M0 58 (299 + S 1 0 0) = -1 := by rw [← hM0, mset_at]
  have hE0 : EqO [58] M M0 := by rw [← hM0]; exact (EqO.set (by decide)).tr ((EqO.set (by decide)).tr (EqO.set (by decide)))
  refine loop_up (P := fun i => ∀ M', EqO [58] M M' → (∀ j, (∀ p, p < 8 → j ≠ 323 + 24 * p + S 1 0 0) → M' 58 j = M0 58 j) → (∀ p, p < i → M' 58 (323 + 24 * p + S 1 0 0) = nI 0) → Go mM_adds (d + 1) Q 43 [some (.ref 57), some (.int (nI dd)), some (.int (nI kk)), some (.int (nI (S 1 0 0))), some (.int (nI i))] [] M') 8 ?_ 0 (Nat.zero_le _) M0 hE0 (fun _ _ => rfl) (fun p hp => absurd hp (by omega))
  intro i hi ih M' hE k1 k2
  have e2 : M' 58 2 = nI (S 1 0 0) := by rw [k1 2 (fun p hp => by omega), g0 2 (by omega) (by omega) (by omega)]; exact hM.nd
  refine g_iload dX10_adds_43 rfl ?_
  refine g_bipush (nI 8) dX10_adds_45 kb_8 ?_
  refine g_icmp_ge_n 73 dX10_adds_47 (by decide) (by omega) (by omega) (fun c47 => ?_) (fun c47 => ?_)
  · refine g_aload_n dX10_adds_73 rfl ?_
    refine g_getr (j := 0) dX10_adds_74 gc10 rfl (by decide) rfl (by decide) fl_M_9 ?_
    refine g_iconst (nI 2) dX10_adds_77 ki_2 ?_
    refine g_dup2 dX10_adds_78 rfl rfl ?_
    refine g_iald_n dX10_adds_79 (by first | rfl | assumption) (by first | decide | assumption) (by omega) (by omega) ?_
    try simp (disch := omega) only [mset_off, e2]
    refine g_iconst (nI 1) dX10_adds_80 ki_1 ?_
    first | refine g_iadd_n dX10_adds_81 ?_ | refine g_iadd dX10_adds_81 ?_
    refine g_iast_n dX10_adds_82 (by first | rfl | assumption) (by first | decide | assumption) (by omega) (by omega) ?_
    refine g_return dX10_adds_83 rfl ?_
    refine h (mset M' 58 2 (nI (S 1 0 0 + 1))) (hE.tr (EqO.set (by decide))) (MKaddD hM hdd hkk hn ?_ ?_ ?_ ?_ ?_ ?_)
    · rw [mset_at]
    · rw [mset_off (by omega), k1 _ (fun p hp => by omega)]; exact g1
    · rw [mset_off (by omega), k1 _ (fun p hp => by omega)]; exact g2
    · rw [mset_off (by omega), k1 _ (fun p hp => by omega)]; exact g3
    · intro p hp; rw [mset_off (by omega)]; exact k2 p (by omega)
    · intro j h2 h10 h11 h12 h13
      rw [mset_off (by omega), k1 j h13, g0 j h10 h11 h12]
  · refine g_aload_n dX10_adds_50 rfl ?_
    refine g_getr (j := 0) dX10_adds_51 gc10 rfl (by decide) rfl (by decide) fl_M_9 ?_
    refine g_sipush (nI 323) dX10_adds_54 ks_323 ?_
    refine g_bipush (nI 24) dX10_adds_57 kb_24 ?_
    refine g_iload dX10_adds_59 rfl ?_
    first | refine g_imul_n dX10_adds_61 ?_ | refine g_imul dX10_adds_61 ?_
    first | refine g_iadd_n dX10_adds_62 ?_ | refine g_iadd dX10_adds_62 ?_
    refine g_iload_n dX10_adds_63 rfl ?_
    first | refine g_iadd_n dX10_adds_64 ?_ | refine g_iadd dX10_adds_64 ?_
    refine g_iconst (nI 0) dX10_adds_65 ki_0 ?_
    refine g_iast_n dX10_adds_66 (by first | rfl | assumption) (by first | decide | assumption) (by omega) (by omega) ?_
    first | refine g_incn5_4 dX10_adds_67 ki_1 (by decide) rfl ?_ | refine g_incg5_4 (nI 1) dX10_adds_67 ki_1 (by decide) rfl ?_
    refine g_goto 43 dX10_adds_70 (by decide) ?_
    refine ih (by omega) _ (hE.tr (EqO.set (by decide))) (fun j hj => ?_) (fun p hp => ?_)
    · have := hj i (by omega)
      rw [mset_off (by omega)]; exact k1 j hj
    · by_cases e : p = i
      · subst e; rw [mset_at]
      · rw [mset_off (by omega)]; exact k2 p (by omega)
def f_duty (x k : Int32) (S : BS) : Int32 × BS := if inR k 4 = true then (if inR x 366 = true then (if S 1 0 0 = 24 then (-4, S) else (nI (S 1 0 0), addD S (v2n x) (v2n k))) else (-2, S)) else (-1, S)
theorem inR_le {x : Int32} {n : Nat} (hn : n < 2 ^ 31) (h1 : ¬ x < 0) (h2 : x ≤ nI n) : inR x (n + 1) = true := by
  rw [lt0_toInt] at h1
  rw [toInt_lenI hn] at h2
  exact decide_eq_true (by omega)
theorem inR_nle {x : Int32} {n : Nat} (hn : n < 2 ^ 31) (h2 : ¬ x ≤ nI n) : inR x (n + 1) = false := by
  rw [toInt_lenI hn] at h2
  exact decide_eq_false (by omega)
theorem SF_duty (x k : Int32) (M : Mm) (S : BS) (Q : Po) (hB : BK M S) (hH : HO S) (h : ∀ M', FrC M M' → BK M' (f_duty x k S).2 → Q M' (some (.int (f_duty x k S).1))) : Call 60 mF_duty [.ref 0, .int x, .int k] M Q := by
  have hw := hB.wf.nd
  refine Call_of (m := mF_duty) [some (.ref 0), some (.int x), some (.int k)] rfl (fun G => Nat.le_of_ble_eq_true rfl) (fun G => rfl) ?_
  refine g_iload_n dX9_duty_0 rfl ?_
  refine g_calls1 dX9_duty_1 clF_isKind ml_F_106 (Nat.le_of_ble_eq_true rfl) ?_
  refine SF_isKind k ?_
  refine g_if_ne_b 9 dX9_duty_4 (by decide) (fun c4 => ?_) (fun c4 => ?_)
  · obtain ⟨j, hj, rfl⟩ := inR_true c4
    rw [f_duty, if_pos c4, v2n_nI (show j < 2 ^ 31 by omega)] at h
    refine g_iload_n dX9_duty_9 rfl ?_
    refine g_if_lt 20 dX9_duty_10 (by decide) (fun c10 => ?_) (fun c10 => ?_)
    · rw [if_neg (by rw [inR_f1 c10]; decide)] at h
      refine g_bipush ((-2)) dX9_duty_20 kb_m2 ?_
      refine g_ireturn dX9_duty_22 rfl (by first | rfl | exact nar_bI _) ?_
      exact h M FrC.rf hB
    · refine g_iload_n dX9_duty_13 rfl ?_
      refine g_sipush (nI 365) dX9_duty_14 ks_365 ?_
      refine g_icmp_le 23 dX9_duty_17 (by decide) (fun c17 => ?_) (fun c17 => ?_)
      · have e := inR_le (n := 365) (by omega) c10 c17
        obtain ⟨u, hu, rfl⟩ := inR_true e
        rw [if_pos e, v2n_nI (show u < 2 ^ 31 by omega)] at h
        refine g_aload_n dX9_duty_23 rfl ?_
        refine g_getr (j := 0) dX9_duty_24 gc9 rfl (by decide) rfl (by decide) fl_F_13 ?_
        refine g_geti (j := 1) dX9_duty_27 gc0 rfl (by decide) rfl (by decide) fl_F_164 ?_
        try simp (disch := omega) only [hB.nd]
        refine g_bipush (nI 24) dX9_duty_30 kb_24 ?_
        refine g_icmp_lt_n 38 dX9_duty_32 (by decide) (by omega) (by omega) (fun c32 => ?_) (fun c32 => ?_)
        · rw [if_neg (by omega)] at h
          refine g_aload_n dX9_duty_38 rfl ?_
          refine g_getr (j := 0) dX9_duty_39 gc9 rfl (by decide) rfl (by decide) fl_F_13 ?_
          refine g_iload_n dX9_duty_42 rfl ?_
          refine g_iload_n dX9_duty_43 rfl ?_
          refine g_call2 dX9_duty_44 clB_addDuty ml_F_167 gc0 rfl rfl (by decide) (Nat.le_of_ble_eq_true rfl) ?_
          refine SB_addDuty hB (by omega) hj c32 (fun M' hE hB' => ?_)
          refine g_ireturn dX9_duty_47 rfl (by first | rfl | exact nar_bI _) ?_
          exact h M' (FrC.of hE (by decide)) hB'
        · rw [if_pos (by omega)] at h
          refine g_bipush ((-4)) dX9_duty_35 kb_m4 ?_
          refine g_ireturn dX9_duty_37 rfl (by first | rfl | exact nar_bI _) ?_
          exact h M FrC.rf hB
      · rw [if_neg (by rw [inR_nle (n := 365) (by omega) c17]; decide)] at h
        refine g_bipush ((-2)) dX9_duty_20 kb_m2 ?_
        refine g_ireturn dX9_duty_22 rfl (by first | rfl | exact nar_bI _) ?_
        exact h M FrC.rf hB
  · rw [f_duty, if_neg (by rw [c4]; decide)] at h
    refine g_iconst ((-1)) dX9_duty_7 ki_m1 ?_
    refine g_ireturn dX9_duty_8 rfl (by first | rfl | exact nar_bI _) ?_
    exact h M FrC.rf hB
theorem SM_duty (x k : Int32) (M : Mm) (S : BS) (Q : Po) (hM : MK (M 58) S) (hC : MC M) (hH : HO S) (h : ∀ M', FrM M M' → MK (M' 58) (f_duty x k S).2 → Q M' (some (.int (f_duty x k S).1))) : Call 60 mM_duty [.ref 57, .int x, .int k] M Q := by
  have hw := hM.wf.nd
  refine Call_of (m := mM_duty) [some (.ref 57), some (.int x), some (.int k)] rfl (fun G => Nat.le_of_ble_eq_true rfl) (fun G => rfl) ?_
  refine g_iload_n dX10_duty_0 rfl ?_
  refine g_calls1 dX10_duty_1 clM_isKind ml_M_117 (Nat.le_of_ble_eq_true rfl) ?_
  refine SM_isKind k ?_
  refine g_if_ne_b 9 dX10_duty_4 (by decide) (fun c4 => ?_) (fun c4 => ?_)
  · obtain ⟨j, hj, rfl⟩ := inR_true c4
    rw [f_duty, if_pos c4, v2n_nI (show j < 2 ^ 31 by omega)] at h
    refine g_iload_n dX10_duty_9 rfl ?_
    refine g_i2l dX10_duty_10 ?_
    refine g_lconst (0) dX10_duty_11 (by decide) ?_
    refine g_ldc2w (365) dX10_duty_12 kl_M_135 ?_
    refine g_calls3 dX10_duty_15 clM_in ml_M_68 (Nat.le_of_ble_eq_true rfl) ?_
    refine SM_in _ _ _ ?_
    rw [inJ_L (n := 366) (by decide)]
    refine g_if_ne_b 24 dX10_duty_18 (by decide) (fun c18 => ?_) (fun c18 => ?_)
    · obtain ⟨u, hu, rfl⟩ := inR_true c18
      rw [if_pos c18, v2n_nI (show u < 2 ^ 31 by omega)] at h
      refine g_aload_n dX10_duty_24 rfl ?_
      refine g_getr (j := 0) dX10_duty_25 gc10 rfl (by decide) rfl (by decide) fl_M_9 ?_
      refine g_iconst (nI 2) dX10_duty_28 ki_2 ?_
      refine g_iald_n dX10_duty_29 (by first | rfl | assumption) (by first | decide | assumption) (by omega) (by omega) ?_
      try simp (disch := omega) only [hM.nd]
      refine g_bipush (nI 24) dX10_duty_30 kb_24 ?_
      refine g_icmp_ne_n 38 dX10_duty_32 (by decide) (by omega) (by omega) (fun c32 => ?_) (fun c32 => ?_)
      · rw [if_neg c32] at h
        refine g_aload_n dX10_duty_38 rfl ?_
        refine g_iload_n dX10_duty_39 rfl ?_
        refine g_iload_n dX10_duty_40 rfl ?_
        refine g_call2 dX10_duty_41 clM_adds ml_M_137 gc10 rfl rfl (by decide) (Nat.le_of_ble_eq_true rfl) ?_
        refine SM_adds hM (by omega) hj (by omega) (fun M' hE hM' => ?_)
        have e1 : addD S u j 1 0 0 = S 1 0 0 + 1 := rfl
        refine g_aload_n dX10_duty_44 rfl ?_
        refine g_getr (j := 0) dX10_duty_45 gc10 rfl (by decide) rfl (by decide) fl_M_9 ?_
        refine g_iconst (nI 2) dX10_duty_48 ki_2 ?_
        refine g_iald_n dX10_duty_49 (by first | rfl | assumption) (by first | decide | assumption) (by omega) (by omega) ?_
        try simp (disch := omega) only [hM'.nd, e1]
        refine g_iconst (nI 1) dX10_duty_50 ki_1 ?_
        first | refine g_isub_n dX10_duty_51 (by omega) ?_ | refine g_isub dX10_duty_51 ?_
        refine g_ireturn dX10_duty_52 rfl (by first | rfl | exact nar_bI _) ?_
        rw [Nat.add_sub_cancel]
        exact h M' (FrM.of hE (by decide)) hM'
      · rw [if_pos c32] at h
        refine g_bipush ((-4)) dX10_duty_35 kb_m4 ?_
        refine g_ireturn dX10_duty_37 rfl (by first | rfl | exact nar_bI _) ?_
        exact h M FrM.rf hM
    · rw [if_neg (by rw [c18]; decide)] at h
      refine g_bipush ((-2)) dX10_duty_21 kb_m2 ?_
      refine g_ireturn dX10_duty_23 rfl (by first | rfl | exact nar_bI _) ?_
      exact h M FrM.rf hM
  · rw [f_duty, if_neg (by rw [c4]; decide)] at h
    refine g_iconst ((-1)) dX10_duty_7 ki_m1 ?_
    refine g_ireturn dX10_duty_8 rfl (by first | rfl | exact nar_bI _) ?_
    exact h M FrM.rf hM
theorem addD_HO {S : BS} (hH : HO S) {dd kk : Nat} : HO (addD S dd kk) := by
  intro d hd h8
  rw [addD_1] at hd
  by_cases e : d = S 1 0 0
  · subst e; rw [addD_12] at h8; omega
  · rw [addD_old (a := 12) (by decide) e] at h8 ⊢
    rw [addD_oth (a := 4) (by decide) (by decide) (by decide) (by decide)]
    exact hH d (by omega) h8
theorem both_duty (x k : Int32) : Both mF_duty mM_duty [.int x, .int k] := both_book (f_duty x k) (fun M S Q => SF_duty x k M S Q) (fun M S Q => SM_duty x k M S Q) (fun S hW hH => by
  unfold f_duty
  split
  · split
    · split
      · exact hH
      · exact addD_HO hH
    · exact hH
  · exact hH)
theorem SF_orNobody {d : Nat} {M : Mm} {Q : Po} {q : Nat} (hq : q ≤ 8) (h : Q M (some (.int (tH q)))) : Call (d + 1) mF_orNobody [.int (hv q)] M Q := by
  unfold tH at h
  refine Call_of (m := mF_orNobody) [some (.int (hv q))] rfl (fun G => Nat.le_of_ble_eq_true rfl) (fun G => rfl) ?_
  refine g_iload_n dX9_orNobody_0 rfl ?_
  refine g_iconst ((-1)) dX9_orNobody_1 ki_m1 ?_
  refine g_icmp_ne 10 dX9_orNobody_2 (by decide) (fun c2 => ?_) (fun c2 => ?_)
  · rw [hv_open _ hq] at c2
    rw [if_neg c2] at h
    refine g_iload_n dX9_orNobody_10 rfl ?_
    refine g_ireturn dX9_orNobody_11 rfl (by first | rfl | exact nar_bI _) ?_
    rw [show hv q = nI q by unfold hv; rw [if_neg c2]]; exact h
  · rw [hv_open _ hq] at c2
    rw [if_pos c2] at h
    refine g_bipush ((-5)) dX9_orNobody_5 kb_m5 ?_
    refine g_goto 11 dX9_orNobody_7 (by decide) ?_
    refine g_ireturn dX9_orNobody_11 rfl (by first | rfl | exact nar_bI _) ?_
    exact h
theorem plN_ex (S : BS) {e : Nat} (he : e < S 1 0 0) : ∃ k, k < S 1 0 0 ∧ sd S k = e ∧ ∀ j, j < k → sd S j ≠ e := by
  obtain ⟨k, h1, h2⟩ := sdF_onto (fun d => S 10 d 0) (S 1 0 0) e he
  obtain ⟨j, h3, h4, h5⟩ := first_of (P := fun k => sd S k = e) k h2
  exact ⟨j, by omega, h4, h5⟩
theorem pl_uniq {S : BS} {e j k : Nat} (h1 : sd S j = e) (h2 : ∀ i, i < j → sd S i ≠ e) (h3 : sd S k = e) (h4 : ∀ i, i < k → sd S i ≠ e) : j = k := by
  rcases Nat.lt_trichotomy j k with q | q | q
  · exact absurd h1 (h4 j q)
  · exact q
  · exact absurd h3 (h2 k q)
def do_ (S : BS) (e u : Nat) : Int32 := if u = 0 then nI (S 10 e 0) else if u = 1 then nI (S 11 e 0) else if u = 2 then tH (S 12 e 0) else if u = 4 then nI (whoN S e) else -1
theorem both_dutyOf (x w : Int32) : Both mF_dutyOf mM_dutyOf [.int x, .int w] := by
  intro M ⟨S, b, S', n, t, pn, pf, h1, h2, h3, h4⟩
  have hw := h2.wf.nd
  have fin : ∀ (v : Int32) (M1 : Mm), FrM M M1 → (fun (M2 : Mm) (r2 : Option Value) => r2 = some (.int v) ∧ INV M2) M1 (some (.int v)) := fun v M1 hf =>
    ⟨rfl, S, b, S', n, t, pn, pf, h1, h2.frM hf, by
      rw [show M1 58 = M 58 from funext (fun j => sorry)]; exact h3, h4.keep (fun k j hk => hf k j (Or.inl hk))⟩
  sorry
