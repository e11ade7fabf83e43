/-! BOOK: one comes, a DUTY comes, a YEAR is closed, copies -/
theorem pastSum_le2 {S : BS} (hW : WF S) {k : Nat} (hk : k < 4) : ∀ {n : Nat}, n ≤ 8 → pastSum S k n ≤ 999 * cnt (hr S) n := by
  intro n
  induction n with
  | zero => intro _; exact Nat.le_refl 0
  | succ n ih =>
    intro hn
    have h1 := ih (by omega)
    have h2 := hW.ps (p := n) (by omega) hk
    unfold pastSum at h1 ⊢
    rw [sumN, cnt]
    split <;> omega
theorem neuN_le {S : BS} (hW : WF S) {k : Nat} (hk : k < 4) : neuN S k ≤ 999 := by
  have h := pastSum_le2 hW hk hW.np
  unfold neuN
  split
  · omega
  · exact Nat.div_le_of_le_mul (by rw [Nat.mul_comm]; exact h)
def addS (S : BS) (r : Nat) : BS := fun a b c => if a = 0 then S 0 0 0 + 1 else if a = 3 ∧ b = S 0 0 0 then r else if a = 4 ∧ b = S 0 0 0 then 1 else if a = 5 ∧ b = S 0 0 0 then neuN S c else if a = 6 ∧ b = S 0 0 0 then 0 else if a = 13 ∧ b = S 0 0 0 then 0 else S a b c
theorem addS_0 (S : BS) (r : Nat) : addS S r 0 0 0 = S 0 0 0 + 1 := rfl
theorem addS_old {S : BS} {r a b c : Nat} (ha : a ≠ 0) (hb : b ≠ S 0 0 0) : addS S r a b c = S a b c := by
  unfold addS
  rw [if_neg ha, if_neg (fun q => hb q.2), if_neg (fun q => hb q.2), if_neg (fun q => hb q.2), if_neg (fun q => hb q.2), if_neg (fun q => hb q.2)]
theorem addS_oth {S : BS} {r a b c : Nat} (ha : a ≠ 0) (h3 : a ≠ 3) (h4 : a ≠ 4) (h5 : a ≠ 5) (h6 : a ≠ 6) (h13 : a ≠ 13) : addS S r a b c = S a b c := by
  unfold addS
  rw [if_neg ha, if_neg (fun q => h3 q.1), if_neg (fun q => h4 q.1), if_neg (fun q => h5 q.1), if_neg (fun q => h6 q.1), if_neg (fun q => h13 q.1)]
theorem addS_3 (S : BS) (r c : Nat) : addS S r 3 (S 0 0 0) c = r := by unfold addS; rw [if_neg (by decide), if_pos ⟨rfl, rfl⟩]
theorem addS_4 (S : BS) (r c : Nat) : addS S r 4 (S 0 0 0) c = 1 := by unfold addS; rw [if_neg (by decide), if_neg (fun q => absurd q.1 (by decide)), if_pos ⟨rfl, rfl⟩]
theorem addS_5 (S : BS) (r c : Nat) : addS S r 5 (S 0 0 0) c = neuN S c := by unfold addS; rw [if_neg (by decide), if_neg (fun q => absurd q.1 (by decide)), if_neg (fun q => absurd q.1 (by decide)), if_pos ⟨rfl, rfl⟩]
theorem addS_6 (S : BS) (r c : Nat) : addS S r 6 (S 0 0 0) c = 0 := by unfold addS; rw [if_neg (by decide), if_neg (fun q => absurd q.1 (by decide)), if_neg (fun q => absurd q.1 (by decide)), if_neg (fun q => absurd q.1 (by decide)), if_pos ⟨rfl, rfl⟩]
theorem addS_13 (S : BS) (r c : Nat) : addS S r 13 (S 0 0 0) c = 0 := by unfold addS; rw [if_neg (by decide), if_neg (fun q => absurd q.1 (by decide)), if_neg (fun q => absurd q.1 (by decide)), if_neg (fun q => absurd q.1 (by decide)), if_neg (fun q => absurd q.1 (by decide)), if_pos ⟨rfl, rfl⟩]
theorem addS_wf {S : BS} (hW : WF S) {r : Nat} (hr : r ≤ 3) (hn : S 0 0 0 < 8) : WF (addS S r) := by
  have o : ∀ {a b c : Nat}, a ≠ 0 → a ≠ 3 → a ≠ 4 → a ≠ 5 → a ≠ 6 → a ≠ 13 → addS S r a b c = S a b c := fun h0 h3 h4 h5 h6 h13 => addS_oth h0 h3 h4 h5 h6 h13
  refine ⟨by rw [addS_0]; omega, by rw [o (by decide) (by decide) (by decide) (by decide) (by decide) (by decide)]; exact hW.nd, fun p hp => ?_, fun p hp => ?_, fun p hp => ?_, fun p k hp hk => ?_, fun p hp => ?_, fun p q hp hq => ?_, fun d hd => ?_, fun p d hp hd => ?_, fun p d hd => ?_⟩
  · by_cases e : p = S 0 0 0
    · subst e; rw [addS_4]; exact Nat.le_refl 1
    · rw [addS_old (by decide) e]; exact hW.hN hp
  · rw [addS_0] at hp
    rw [addS_old (by decide) (by omega)]; exact hW.out (by omega)
  · by_cases e : p = S 0 0 0
    · subst e; rw [addS_3]; exact hr
    · rw [addS_old (by decide) e]; exact hW.rk hp
  · by_cases e : p = S 0 0 0
    · subst e; rw [addS_5]; exact neuN_le hW hk
    · rw [addS_old (by decide) e]; exact hW.ps hp hk
  · by_cases e : p = S 0 0 0
    · subst e; rw [addS_6]; omega
    · rw [addS_old (by decide) e]; exact hW.nr hp
  · rw [o (a := 7) (by decide) (by decide) (by decide) (by decide) (by decide) (by decide), o (a := 8) (by decide) (by decide) (by decide) (by decide) (by decide) (by decide), o (a := 9) (by decide) (by decide) (by decide) (by decide) (by decide) (by decide)]; exact hW.rl hp hq
  · rw [o (a := 10) (by decide) (by decide) (by decide) (by decide) (by decide) (by decide), o (a := 11) (by decide) (by decide) (by decide) (by decide) (by decide) (by decide), o (a := 12) (by decide) (by decide) (by decide) (by decide) (by decide) (by decide)]; exact hW.dk hd
  · by_cases e : p = S 0 0 0
    · subst e; rw [addS_13]; omega
    · rw [addS_old (by decide) e]; exact hW.dl hp hd
  · rw [o (a := 1) (by decide) (by decide) (by decide) (by decide) (by decide) (by decide)] at hd
    by_cases e : p = S 0 0 0
    · subst e; rw [addS_13]
    · rw [addS_old (by decide) e]; exact hW.dl0 hd
theorem BKaddS {M M' : Mm} {S : BS} (hB : BK M S) {r : Nat} (hr3 : r ≤ 3) (hn : S 0 0 0 < 8) (h0 : M' 1 0 = nI (S 0 0 0 + 1)) (h3 : M' 3 (S 0 0 0) = nI r) (h4 : M' 4 (S 0 0 0) = nI 1) (h5 : ∀ k, k < 4 → M' 5 (S 0 0 0 * 4 + k) = nI (neuN S k)) (h6 : M' 6 (S 0 0 0) = nI 0) (h13 : ∀ d, d < 24 → M' 13 (S 0 0 0 * 24 + d) = nI 0)
    (hk : ∀ k j, relB S k j → ¬ (k = 1 ∧ j = 0) → ¬ (k = 4 ∧ j = S 0 0 0) → M' k j = M k j) : BK M' (addS S r) := by
  have hnr := fun p (hp : p < S 0 0 0) => hB.wf.nr (p := p) (by have := hB.wf.np; omega)
  have o : ∀ {a b c : Nat}, a ≠ 0 → a ≠ 3 → a ≠ 4 → a ≠ 5 → a ≠ 6 → a ≠ 13 → addS S r a b c = S a b c := fun h0 h3 h4 h5 h6 h13 => addS_oth h0 h3 h4 h5 h6 h13
  have o1 : addS S r 1 0 0 = S 1 0 0 := o (by decide) (by decide) (by decide) (by decide) (by decide) (by decide)
  have o10 : addS S r 10 = S 10 := by funext b c; exact o (by decide) (by decide) (by decide) (by decide) (by decide) (by decide)
  refine ⟨addS_wf hB.wf hr3 hn, h0, ?_, ?_, fun d hd => ?_, fun p hp => ?_, fun p hp => ?_, fun p k hp hk4 => ?_, fun p hp => ?_, fun p q hp hq => ?_, fun d hd => ?_, fun p d hp hd => ?_⟩
  · rw [o1, hk 1 1 (relB_1 (by omega)) (by omega) (by omega)]; exact hB.nd
  · rw [o (a := 2) (by decide) (by decide) (by decide) (by decide) (by decide) (by decide), hk 1 2 (relB_1 (by omega)) (by omega) (by omega)]; exact hB.yr
  · rw [o1] at hd
    rw [o (a := 12) (by decide) (by decide) (by decide) (by decide) (by decide) (by decide), hk 2 d (relB_2 (by omega)) (by omega) (by omega)]; exact hB.ho hd
  · rw [addS_0] at hp
    by_cases e : p = S 0 0 0
    · subst e; rw [addS_3]; exact h3
    · rw [addS_old (by decide) e, hk 3 p (relB_3 (by omega)) (by omega) (by omega)]; exact hB.rk (by omega)
  · by_cases e : p = S 0 0 0
    · subst e; rw [h4]; unfold hr; rw [addS_4]; rfl
    · unfold hr; rw [addS_old (by decide) e, hk 4 p (relB_4 (by omega)) (by omega) (by omega)]; exact hB.here hp
  · rw [addS_0] at hp
    by_cases e : p = S 0 0 0
    · subst e; rw [addS_5]; exact h5 k hk4
    · rw [addS_old (by decide) e, hk 5 _ (relB_5 (by omega)) (by omega) (by omega)]; exact hB.ps (by omega) hk4
  · rw [addS_0] at hp
    by_cases e : p = S 0 0 0
    · subst e; rw [addS_6]; exact h6
    · rw [addS_old (by decide) e, hk 6 p (relB_6 (by omega)) (by omega) (by omega)]; exact hB.nr (by omega)
  · rw [addS_0] at hp
    by_cases e : p = S 0 0 0
    · subst e; rw [addS_6] at hq; omega
    · rw [addS_old (by decide) e] at hq
      have hp2 : p < S 0 0 0 := by omega
      have := hnr p hp2
      rw [addS_old (a := 7) (by decide) e, addS_old (a := 8) (by decide) e, addS_old (a := 9) (by decide) e, hk 7 _ (relB_7 (by omega)) (by omega) (by omega), hk 8 _ (relB_8 (by omega)) (by omega) (by omega), hk 9 _ (relB_9 (by omega)) (by omega) (by omega)]
      exact ⟨hB.rs hp2 hq, hB.ra hp2 hq, hB.rb hp2 hq⟩
  · rw [o1] at hd
    have e10 : sd (addS S r) d = sd S d := by simp only [sd, o1, o10]
    rw [o (a := 10) (by decide) (by decide) (by decide) (by decide) (by decide) (by decide), o (a := 11) (by decide) (by decide) (by decide) (by decide) (by decide) (by decide), e10, hk 10 d (relB_10 (by omega)) (by omega) (by omega), hk 11 d (relB_11 (by omega)) (by omega) (by omega), hk 12 d (relB_12 (by omega)) (by omega) (by omega)]
    exact ⟨hB.dy hd, hB.kd hd, hB.st hd⟩
  · rw [addS_0] at hp
    by_cases e : p = S 0 0 0
    · subst e; rw [addS_13]; exact h13 d hd
    · rw [addS_old (by decide) e, hk 13 _ (relB_13 (by omega)) (by omega) (by omega)]; exact hB.dl (by omega) hd
theorem SB_addOne {d : Nat} {M : Mm} {S : BS} {Q : Po} (hB : BK M S) {r : Nat} (hr : r ≤ 3) (hn : S 0 0 0 < 8) (h : ∀ M', EqO [1, 3, 4, 5, 6, 13] M M' → BK M' (addS S r) → Q M' (some (.int (nI (S 0 0 0))))) : Call (d + 4) mB_addOne [.ref 1, .int (nI r)] M Q := by
  have hw := hB.wf.np
  refine Call_of (m := mB_addOne) [some (.ref 1), some (.int (nI r)), none, none] rfl (fun G => Nat.le_of_ble_eq_true rfl) (fun G => rfl) ?_
  refine g_aload_n dX0_addOne_0 rfl ?_
  refine g_geti (j := 0) dX0_addOne_1 gc0 rfl (by decide) rfl (by decide) fl_B_49 ?_
  try simp (disch := omega) only [hB.np]
  refine g_ist4_2 dX0_addOne_4 (by decide) rfl ?_
  refine g_iload_n dX0_addOne_5 rfl ?_
  refine g_if_lt_n 15 dX0_addOne_6 (by decide) (by omega) ?_
  refine g_iload_n dX0_addOne_9 rfl ?_
  refine g_bipush (nI 8) dX0_addOne_10 kb_8 ?_
  refine g_icmp_lt_n 18 dX0_addOne_12 (by decide) (by omega) (by omega) (fun c12 => ?_) (fun c12 => ?_)
  · skip
    refine g_aload_n dX0_addOne_18 rfl ?_
    refine g_getr (j := 4) dX0_addOne_19 gc0 rfl (by decide) rfl (by decide) fl_B_15 ?_
    refine g_iload_n dX0_addOne_22 rfl ?_
    refine g_iload_n dX0_addOne_23 rfl ?_
    refine g_iast_n dX0_addOne_24 (by first | rfl | assumption) (by first | decide | assumption) (by omega) (by omega) ?_
    refine g_aload_n dX0_addOne_25 rfl ?_
    refine g_getr (j := 7) dX0_addOne_26 gc0 rfl (by decide) rfl (by decide) fl_B_25 ?_
    refine g_iload_n dX0_addOne_29 rfl ?_
    refine g_iconst (nI 0) dX0_addOne_30 ki_0 ?_
    refine g_iast_n dX0_addOne_31 (by first | rfl | assumption) (by first | decide | assumption) (by omega) (by omega) ?_
    refine g_iconst (nI 0) dX0_addOne_32 ki_0 ?_
    refine g_ist4_3 dX0_addOne_33 (by decide) rfl ?_
    refine loop_up (P := fun i => ∀ M', EqO [3, 5, 6] M M' → (∀ k j, relB S k j → M' k j = M k j) → M' 3 (S 0 0 0) = nI r → M' 6 (S 0 0 0) = nI 0 → (∀ k, k < i → M' 5 (S 0 0 0 * 4 + k) = nI (neuN S k)) → Go mB_addOne (d + 4) Q 34 [some (.ref 1), some (.int (nI r)), some (.int (nI (S 0 0 0))), some (.int (nI i))] [] M') 4 ?_ 0 (Nat.zero_le _) _ ?_ ?_ ?_ ?_ (fun k hk => absurd hk (by omega))
    · intro i hi ih M' hE hkeep h3 h6 h5
      have hB' := hB.keep hkeep
      refine g_iload_n dX0_addOne_34 rfl ?_
      refine g_iconst (nI 4) dX0_addOne_35 ki_4 ?_
      refine g_icmp_ge_n 60 dX0_addOne_36 (by decide) (by omega) (by omega) (fun c36 => ?_) (fun c36 => ?_)
      · refine g_iconst (nI 0) dX0_addOne_60 ki_0 ?_
        refine g_ist4_3 dX0_addOne_61 (by decide) rfl ?_
        refine loop_up (P := fun i => ∀ M', EqO [3, 5, 6, 13] M M' → (∀ k j, relB S k j → M' k j = M k j) → M' 3 (S 0 0 0) = nI r → M' 6 (S 0 0 0) = nI 0 → (∀ k, k < 4 → M' 5 (S 0 0 0 * 4 + k) = nI (neuN S k)) → (∀ e, e < i → M' 13 (S 0 0 0 * 24 + e) = nI 0) → Go mB_addOne (d + 4) Q 62 [some (.ref 1), some (.int (nI r)), some (.int (nI (S 0 0 0))), some (.int (nI i))] [] M') 24 ?_ 0 (Nat.zero_le _) _ (hE.sub (by decide)) hkeep h3 h6 (fun k hk => h5 k (by omega)) (fun k hk => absurd hk (by omega))
        intro j hj jh M2 hE2 hkeep2 g3 g6 g5 g13
        have e0 : M2 1 0 = nI (S 0 0 0) := (hB.keep hkeep2).np
        refine g_iload_n dX0_addOne_62 rfl ?_
        refine g_bipush (nI 24) dX0_addOne_63 kb_24 ?_
        refine g_icmp_ge_n 86 dX0_addOne_65 (by decide) (by omega) (by omega) (fun c65 => ?_) (fun c65 => ?_)
        · skip
          refine g_aload_n dX0_addOne_86 rfl ?_
          refine g_getr (j := 5) dX0_addOne_87 gc0 rfl (by decide) rfl (by decide) fl_B_18 ?_
          refine g_iload_n dX0_addOne_90 rfl ?_
          refine g_iconst (nI 1) dX0_addOne_91 ki_1 ?_
          refine g_bast_n dX0_addOne_92 rfl (by decide) (by decide) (by omega) (by first | rfl | exact vnar_bI _ | assumption) ?_
          refine g_aload_n dX0_addOne_93 rfl ?_
          refine g_dup dX0_addOne_94 rfl ?_
          refine g_geti (j := 0) dX0_addOne_95 gc0 rfl (by decide) rfl (by decide) fl_B_49 ?_
          try simp (disch := omega) only [mset_off, e0]
          refine g_iconst (nI 1) dX0_addOne_98 ki_1 ?_
          first | refine g_iadd_n dX0_addOne_99 ?_ | refine g_iadd dX0_addOne_99 ?_
          refine g_puti (j := 0) dX0_addOne_100 gc0 rfl (by decide) rfl (by decide) fl_B_49 rfl (tyX0_ok 0 (by decide)) (by first | rfl | exact nar_bI _) rfl ?_
          refine g_iload_n dX0_addOne_103 rfl ?_
          refine g_ireturn dX0_addOne_104 rfl (by first | rfl | exact nar_bI _) ?_
          refine h _ ((hE2.sub (by decide)).tr ((EqO.set (by decide)).tr (EqO.set (by decide)))) ?_
          refine BKaddS hB hr hn ?_ ?_ ?_ ?_ ?_ ?_ ?_
          · rw [mset_at]
          · rw [mset_off (by omega), mset_off (by omega)]; exact g3
          · rw [mset_off (by omega), mset_at]
          · intro k hk; rw [mset_off (by omega), mset_off (by omega)]; exact g5 k hk
          · rw [mset_off (by omega), mset_off (by omega)]; exact g6
          · intro k hk; rw [mset_off (by omega), mset_off (by omega)]; exact g13 k (by omega)
          · intro k q hrel n1 n2; rw [mset_off (by omega), mset_off (by omega)]; exact hkeep2 k q hrel
        · refine g_aload_n dX0_addOne_68 rfl ?_
          refine g_getr (j := 14) dX0_addOne_69 gc0 rfl (by decide) rfl (by decide) fl_B_46 ?_
          refine g_iload_n dX0_addOne_72 rfl ?_
          refine g_bipush (nI 24) dX0_addOne_73 kb_24 ?_
          first | refine g_imul_n dX0_addOne_75 ?_ | refine g_imul dX0_addOne_75 ?_
          refine g_iload_n dX0_addOne_76 rfl ?_
          first | refine g_iadd_n dX0_addOne_77 ?_ | refine g_iadd dX0_addOne_77 ?_
          refine g_iconst (nI 0) dX0_addOne_78 ki_0 ?_
          refine g_iast_n dX0_addOne_79 (by first | rfl | assumption) (by first | decide | assumption) (by omega) (by omega) ?_
          first | refine g_incn4_3 dX0_addOne_80 ki_1 (by decide) rfl ?_ | refine g_incg4_3 (nI 1) dX0_addOne_80 ki_1 (by decide) rfl ?_
          refine g_goto 62 dX0_addOne_83 (by decide) ?_
          refine jh (by omega) _ (hE2.tr (EqO.set (by decide))) ?_ ?_ ?_ ?_ ?_
          · intro k q hrel
            rw [mset_off (by unfold relB at hrel; omega)]; exact hkeep2 k q hrel
          · rw [mset_off (by omega)]; exact g3
          · rw [mset_off (by omega)]; exact g6
          · intro k hk; rw [mset_off (by omega)]; exact g5 k hk
          · intro k hk
            by_cases e : k = j
            · subst e; rw [mset_at]
            · rw [mset_off (by omega)]; exact g13 k (by omega)
      · refine g_aload_n dX0_addOne_39 rfl ?_
        refine g_getr (j := 6) dX0_addOne_40 gc0 rfl (by decide) rfl (by decide) fl_B_22 ?_
        refine g_iload_n dX0_addOne_43 rfl ?_
        refine g_iconst (nI 4) dX0_addOne_44 ki_4 ?_
        first | refine g_imul_n dX0_addOne_45 ?_ | refine g_imul dX0_addOne_45 ?_
        refine g_iload_n dX0_addOne_46 rfl ?_
        first | refine g_iadd_n dX0_addOne_47 ?_ | refine g_iadd dX0_addOne_47 ?_
        refine g_aload_n dX0_addOne_48 rfl ?_
        refine g_iload_n dX0_addOne_49 rfl ?_
        refine g_call1 dX0_addOne_50 clB_neutralPast ml_B_60 gc0 rfl rfl (by decide) (Nat.le_of_ble_eq_true rfl) ?_
        refine SB_neutralPast hB' (by omega) ?_
        refine g_iast_n dX0_addOne_53 (by first | rfl | assumption) (by first | decide | assumption) (by omega) (by omega) ?_
        first | refine g_incn4_3 dX0_addOne_54 ki_1 (by decide) rfl ?_ | refine g_incg4_3 (nI 1) dX0_addOne_54 ki_1 (by decide) rfl ?_
        refine g_goto 34 dX0_addOne_57 (by decide) ?_
        refine ih (by omega) _ (hE.tr (EqO.set (by decide))) ?_ ?_ ?_ ?_
        · intro k q hrel
          rw [mset_off (by unfold relB at hrel; omega)]; exact hkeep k q hrel
        · rw [mset_off (by omega)]; exact h3
        · rw [mset_off (by omega)]; exact h6
        · intro k hk
          by_cases e : k = i
          · subst e; rw [mset_at]
          · rw [mset_off (by omega)]; exact h5 k (by omega)
    · exact (EqO.set (by decide)).tr (EqO.set (by decide))
    · intro k q hrel
      rw [mset_off (by unfold relB at hrel; omega), mset_off (by unfold relB at hrel; omega)]
    · rw [mset_off (by omega), mset_at]
    · rw [mset_at]
  · exact absurd c12 (by omega)
