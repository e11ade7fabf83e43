/-! PATHS in the class: going on, the least, shifting -/
theorem SH_meetWho {d : Nat} {M : Mm} {S : BS} {Q : Po} (hB : BK M S) {k : Nat} {o : Prop} {q : PS} (hq : PC M q) (hT : TR S k o q) {e : Nat} (he : e < S 1 0 0) (hk : S 11 e 0 = k) (hb : (o ∧ S 12 e 0 = 8) ∨ S 12 e 0 ∈ q.1) (h : ∀ M', EqO [31, 32, 33, 34] M M' → PC M' (mwP S e (S 0 0 0) q) → Q M' none) : Call (d + 3) mH_meetWhoMayHold [.ref 31, .int (nI e)] M Q := by
  have hw := hB.wf.np
  have hw2 := hB.wf.nd
  refine Call_of (m := mH_meetWhoMayHold) [some (.ref 31), some (.int (nI e)), none] rfl (fun G => Nat.le_of_ble_eq_true rfl) (fun G => rfl) ?_
  refine g_iconst (nI 0) dX4_meetWhoMayHold_0 ki_0 ?_
  refine g_ist3_2 dX4_meetWhoMayHold_1 (by decide) rfl ?_
  refine loop_up (P := fun i => ∀ M', EqO [31, 32, 33, 34] M M' → PC M' (mwP S e i q) → Go mH_meetWhoMayHold (d + 3) Q 2 [some (.ref 31), some (.int (nI e)), some (.int (nI i))] [] M') (S 0 0 0) ?_ 0 (Nat.zero_le _) M EqO.rf hq
  intro i hi ih M' hE hq'
  have hB' := hB.eqO hE (by decide)
  obtain ⟨t1, t2⟩ := mwP_ok he hk hi hT hb
  refine g_iload_n dX4_meetWhoMayHold_2 rfl ?_
  refine g_aload_n dX4_meetWhoMayHold_3 rfl ?_
  refine g_getr (j := 0) dX4_meetWhoMayHold_4 gc4 rfl (by decide) rfl (by decide) fl_H_22 ?_
  refine g_geti (j := 0) dX4_meetWhoMayHold_7 gc0 rfl (by decide) rfl (by decide) fl_H_72 ?_
  try simp (disch := omega) only [hB'.np]
  refine g_icmp_ge_n 37 dX4_meetWhoMayHold_10 (by decide) (by omega) (by omega) (fun c10 => ?_) (fun c10 => ?_)
  · refine g_return dX4_meetWhoMayHold_37 rfl ?_
    rw [show i = S 0 0 0 by omega] at hq'
    exact h M' hE hq'
  · skip
    refine g_aload_n dX4_meetWhoMayHold_13 rfl ?_
    refine g_getr (j := 0) dX4_meetWhoMayHold_14 gc4 rfl (by decide) rfl (by decide) fl_H_22 ?_
    refine g_iload_n dX4_meetWhoMayHold_17 rfl ?_
    refine g_iload_n dX4_meetWhoMayHold_18 rfl ?_
    refine g_call2 dX4_meetWhoMayHold_19 clB_mayHold ml_H_90 gc0 rfl rfl (by decide) (Nat.le_of_ble_eq_true rfl) ?_
    refine SB_mayHold hB' (by omega) he ?_
    refine g_if_eq_b 31 dX4_meetWhoMayHold_22 (by decide) (fun c22 => ?_) (fun c22 => ?_)
    · first | refine g_incn3_2 dX4_meetWhoMayHold_31 ki_1 (by decide) rfl ?_ | refine g_incg3_2 (nI 1) dX4_meetWhoMayHold_31 ki_1 (by decide) rfl ?_
      refine g_goto 2 dX4_meetWhoMayHold_34 (by decide) ?_
      refine ih (by omega) M' hE ?_
      rw [mwP, if_neg (by rw [c22]; decide)]; exact hq'
    · refine g_aload_n dX4_meetWhoMayHold_25 rfl ?_
      refine g_iload_n dX4_meetWhoMayHold_26 rfl ?_
      refine g_iload_n dX4_meetWhoMayHold_27 rfl ?_
      refine g_call2 dX4_meetWhoMayHold_28 clH_meet ml_H_82 gc4 rfl rfl (by decide) (Nat.le_of_ble_eq_true rfl) ?_
      refine SH_meet hB' hq' t1.1 t1.2.1 (e := e) (by omega) (by unfold bv; rw [if_neg (by omega)]) (fun M2 hE2 hq2 => ?_)
      first | refine g_incn3_2 dX4_meetWhoMayHold_31 ki_1 (by decide) rfl ?_ | refine g_incg3_2 (nI 1) dX4_meetWhoMayHold_31 ki_1 (by decide) rfl ?_
      refine g_goto 2 dX4_meetWhoMayHold_34 (by decide) ?_
      refine ih (by omega) M2 (hE.tr hE2) ?_
      rw [mwP, if_pos c22]; exact hq2
theorem SH_goOn {d : Nat} {M : Mm} {S : BS} {Q : Po} (hB : BK M S) {k : Nat} (hk4 : k < 4) {o : Prop} {q : PS} (hq : PC M q) (hT : TR S k o q) (h : ∀ M', EqO [31, 32, 33, 34] M M' → PC M' (gsP S k 8 0 q) → Q M' none) : Call (d + 4) mH_goOn [.ref 31, .int (nI k)] M Q := by
  have hw := hB.wf.np
  have hw2 := hB.wf.nd
  refine Call_of (m := mH_goOn) [some (.ref 31), some (.int (nI k)), none, none] rfl (fun G => Nat.le_of_ble_eq_true rfl) (fun G => rfl) ?_
  refine g_iconst (nI 0) dX4_goOn_0 ki_0 ?_
  refine g_ist4_2 dX4_goOn_1 (by decide) rfl ?_
  suffices hloop : ∀ f i, i + f = 8 → ∀ M' q', EqO [31, 32, 33, 34] M M' → PC M' q' → TR S k o q' → gsP S k f i q' = gsP S k 8 0 q → Go mH_goOn (d + 4) Q 2 [some (.ref 31), some (.int (nI k)), some (.int (nI i)), none] [] M' by
    exact hloop 8 0 rfl M q EqO.rf hq hT rfl
  intro f
  induction f with
  | zero =>
    intro i hif M' q' hE hq' hT' hg
    have e4 := hq'.1
    have hl := hT'.len hB.wf
    refine g_iload_n dX4_goOn_2 rfl ?_
    refine g_aload_n dX4_goOn_3 rfl ?_
    refine g_geti (j := 4) dX4_goOn_4 gc4 rfl (by decide) rfl (by decide) fl_H_26 ?_
    try simp (disch := omega) only [e4]
    refine g_icmp_ge_n 75 dX4_goOn_7 (by decide) (by omega) (by omega) (fun c7 => ?_) (fun c7 => ?_)
    · refine g_return dX4_goOn_75 rfl ?_
      refine h M' hE ?_
      rw [← hg]; exact hq'
    · exact absurd hl (by omega)
  | succ f ih =>
    intro i hif M' q' hE hq' hT' hg
    have hB' := hB.eqO hE (by decide)
    have e4 := hq'.1
    have hl := hT'.len hB.wf
    refine g_iload_n dX4_goOn_2 rfl ?_
    refine g_aload_n dX4_goOn_3 rfl ?_
    refine g_geti (j := 4) dX4_goOn_4 gc4 rfl (by decide) rfl (by decide) fl_H_26 ?_
    try simp (disch := omega) only [e4]
    refine g_icmp_ge_n 75 dX4_goOn_7 (by decide) (by omega) (by omega) (fun c7 => ?_) (fun c7 => ?_)
    · refine g_return dX4_goOn_75 rfl ?_
      refine h M' hE ?_
      rw [← hg, gsP, if_neg (by omega)]; exact hq'
    · refine g_iload_n dX4_goOn_10 rfl ?_
      refine g_bipush (nI 8) dX4_goOn_11 kb_8 ?_
      refine g_icmp_ge_n 75 dX4_goOn_13 (by decide) (by omega) (by omega) (fun c13 => ?_) (fun c13 => ?_)
      · exact absurd hw (by omega)
      · have hmi : q'.1.getD i 0 ∈ q'.1 := getD_mem (by omega)
        have hpi := hT'.2.1 _ hmi
        refine g_iconst (nI 0) dX4_goOn_16 ki_0 ?_
        refine g_ist4_3 dX4_goOn_17 (by decide) rfl ?_
        refine loop_up (P := fun n => ∀ M2, EqO [31, 32, 33, 34] M M2 → PC M2 (gdP S k (q'.1.getD i 0) n q') → Go mH_goOn (d + 4) Q 18 [some (.ref 31), some (.int (nI k)), some (.int (nI i)), some (.int (nI n))] [] M2) (S 1 0 0) ?_ 0 (Nat.zero_le _) M' hE hq'
        intro n hn nh M2 hE2 hq2
        have hB2 := hB.eqO hE2 (by decide)
        obtain ⟨t1, t2⟩ := gdP_ok (n := n) hn hT' hmi
        have e32 : M2 32 i = nI (q'.1.getD i 0) := by
          rw [hq2.2.2.1 i (by have := t2.1; omega), t2.2.1 i (by omega)]
        refine g_iload_n dX4_goOn_18 rfl ?_
        refine g_aload_n dX4_goOn_19 rfl ?_
        refine g_getr (j := 0) dX4_goOn_20 gc4 rfl (by decide) rfl (by decide) fl_H_22 ?_
        refine g_geti (j := 1) dX4_goOn_23 gc0 rfl (by decide) rfl (by decide) fl_H_36 ?_
        try simp (disch := omega) only [hB2.nd, e32]
        refine g_icmp_ge_n 69 dX4_goOn_26 (by decide) (by omega) (by omega) (fun c26 => ?_) (fun c26 => ?_)
        · first | refine g_incn4_2 dX4_goOn_69 ki_1 (by decide) rfl ?_ | refine g_incg4_2 (nI 1) dX4_goOn_69 ki_1 (by decide) rfl ?_
          refine g_goto 2 dX4_goOn_72 (by decide) ?_
          refine Go_sub [some (.ref 31), some (.int (nI k)), some (.int (nI (i + 1))), none] (by simp [subL]) (ih (i + 1) (by omega) M2 (gdP S k (q'.1.getD i 0) (S 1 0 0) q') hE2 ?_ ?_ ?_)
          · rw [show n = S 1 0 0 by omega] at hq2; exact hq2
          · rw [show n = S 1 0 0 by omega] at t1; exact t1
          · rw [← hg, gsP, if_pos (by omega)]
        · have hdk := hB.wf.dk (d := n) (by omega)
          refine g_aload_n dX4_goOn_29 rfl ?_
          refine g_getr (j := 0) dX4_goOn_30 gc4 rfl (by decide) rfl (by decide) fl_H_22 ?_
          refine g_iload_n dX4_goOn_33 rfl ?_
          refine g_call1 dX4_goOn_34 clB_kindOf ml_H_45 gc0 rfl rfl (by decide) (Nat.le_of_ble_eq_true rfl) ?_
          refine SB_kindOf hB2 (by omega) ?_
          refine g_iload_n dX4_goOn_37 rfl ?_
          refine g_icmp_ne_n 63 dX4_goOn_38 (by decide) (by omega) (by omega) (fun c38 => ?_) (fun c38 => ?_)
          · first | refine g_incn4_3 dX4_goOn_63 ki_1 (by decide) rfl ?_ | refine g_incg4_3 (nI 1) dX4_goOn_63 ki_1 (by decide) rfl ?_
            refine g_goto 18 dX4_goOn_66 (by decide) ?_
            refine nh (by omega) M2 hE2 ?_
            rw [gdP, if_neg (fun z => c38 z.1)]; exact hq2
          · skip
            refine g_aload_n dX4_goOn_41 rfl ?_
            refine g_getr (j := 0) dX4_goOn_42 gc4 rfl (by decide) rfl (by decide) fl_H_22 ?_
            refine g_iload_n dX4_goOn_45 rfl ?_
            refine g_call1 dX4_goOn_46 clB_holderOf ml_H_48 gc0 rfl rfl (by decide) (Nat.le_of_ble_eq_true rfl) ?_
            refine SB_holderOf hB2 (by omega) ?_
            refine g_aload_n dX4_goOn_49 rfl ?_
            refine g_getr (j := 1) dX4_goOn_50 gc4 rfl (by decide) rfl (by decide) fl_H_9 ?_
            refine g_iload_n dX4_goOn_53 rfl ?_
            refine g_iald_n dX4_goOn_54 (by first | rfl | assumption) (by first | decide | assumption) (by omega) (by omega) ?_
            try simp (disch := omega) only [hB2.nd, e32]
            refine g_icmp_ne 63 dX4_goOn_55 (by decide) (fun c55 => ?_) (fun c55 => ?_)
            · rw [hv_eq hdk.2.2 (by omega)] at c55
              first | refine g_incn4_3 dX4_goOn_63 ki_1 (by decide) rfl ?_ | refine g_incg4_3 (nI 1) dX4_goOn_63 ki_1 (by decide) rfl ?_
              refine g_goto 18 dX4_goOn_66 (by decide) ?_
              refine nh (by omega) M2 hE2 ?_
              rw [gdP, if_neg (fun z => c55 z.2)]; exact hq2
            · rw [hv_eq hdk.2.2 (by omega)] at c55
              refine g_aload_n dX4_goOn_58 rfl ?_
              refine g_iload_n dX4_goOn_59 rfl ?_
              refine g_call1 dX4_goOn_60 clH_meetWhoMayHold ml_H_54 gc4 rfl rfl (by decide) (Nat.le_of_ble_eq_true rfl) ?_
              refine SH_meetWho hB2 hq2 t1 (by omega) c38 (Or.inr (by rw [c55]; exact (t2.2.2 _ hmi).1)) (fun M3 hE3 hq3 => ?_)
              first | refine g_incn4_3 dX4_goOn_63 ki_1 (by decide) rfl ?_ | refine g_incg4_3 (nI 1) dX4_goOn_63 ki_1 (by decide) rfl ?_
              refine g_goto 18 dX4_goOn_66 (by decide) ?_
              refine nh (by omega) M3 (hE2.tr hE3) ?_
              rw [gdP, if_pos ⟨c38, c55⟩]; exact hq3
theorem SH_leastMet {d : Nat} {M : Mm} {S : BS} {Q : Po} (hB : BK M S) {k : Nat} (hk4 : k < 4) {q : PS} (hq : PC M q) (hb : ∀ x ∈ q.1, x < S 0 0 0) (h : Q M (some (.int (hv (lmP S k q.1 q.1.length))))) : Call (d + 5) mH_leastMet [.ref 31, .int (nI k)] M Q := by
  have hw := hB.wf.np
  have hw2 := hB.wf.nd
  obtain ⟨q1, q2, q3, q4, q5⟩ := id hq
  have hld : ∀ p, p < S 0 0 0 → loadN S p k ≤ 1025 := fun p hp => by
    have h1 := hB.wf.ps (p := p) (k := k) (by omega) hk4
    have h2 := headN_le S p k
    have h3 := heldF_le S (fun d => S 12 d 0) p k
    unfold loadN loadF
    omega
  refine Call_of (m := mH_leastMet) [some (.ref 31), some (.int (nI k)), none, none, none] rfl (fun G => Nat.le_of_ble_eq_true rfl) (fun G => rfl) ?_
  refine g_iconst ((-1)) dX4_leastMet_0 ki_m1 ?_
  refine g_ist5_2 dX4_leastMet_1 (by decide) rfl ?_
  refine g_iconst (nI 0) dX4_leastMet_2 ki_0 ?_
  refine g_ist5_3 dX4_leastMet_3 (by decide) rfl ?_
  refine loop_up (P := fun i => Go mH_leastMet (d + 5) Q 4 [some (.ref 31), some (.int (nI k)), some (.int (hv (lmP S k q.1 i))), some (.int (nI i)), none] [] M) q.1.length ?_ 0 (Nat.zero_le _)
  intro i hi ih
  refine g_iload_n dX4_leastMet_4 rfl ?_
  refine g_aload_n dX4_leastMet_5 rfl ?_
  refine g_geti (j := 4) dX4_leastMet_6 gc4 rfl (by decide) rfl (by decide) fl_H_26 ?_
  try simp (disch := omega) only [q1, q3]
  refine g_icmp_ge_n 62 dX4_leastMet_9 (by decide) (by omega) (by omega) (fun c9 => ?_) (fun c9 => ?_)
  · refine g_iload_n dX4_leastMet_62 rfl ?_
    refine g_ireturn dX4_leastMet_63 rfl (by first | rfl | exact nar_bI _) ?_
    rw [show i = q.1.length by omega]; exact h
  · refine g_iload_n dX4_leastMet_12 rfl ?_
    refine g_bipush (nI 8) dX4_leastMet_13 kb_8 ?_
    refine g_icmp_ge_n 62 dX4_leastMet_15 (by decide) (by omega) (by omega) (fun c15 => ?_) (fun c15 => ?_)
    · exact absurd q2 (by omega)
    · have hp := hb _ (getD_mem (show i < q.1.length by omega))
      have h8 : lmP S k q.1 i ≤ 8 := by
        rcases lmP_mem (S := S) (k := k) (l := q.1) (fun p hp => by have := hb p hp; omega) hi with ⟨_, e⟩ | ⟨_, e⟩
        · omega
        · have := hb _ e; omega
      refine g_aload_n dX4_leastMet_18 rfl ?_
      refine g_getr (j := 1) dX4_leastMet_19 gc4 rfl (by decide) rfl (by decide) fl_H_9 ?_
      refine g_iload_n dX4_leastMet_22 rfl ?_
      refine g_iald_n dX4_leastMet_23 (by first | rfl | assumption) (by first | decide | assumption) (by omega) (by omega) ?_
      try simp (disch := omega) only [q1, q3]
      refine g_ist5_4 dX4_leastMet_24 (by decide) rfl ?_
      refine g_iload_n dX4_leastMet_26 rfl ?_
      refine g_iconst ((-1)) dX4_leastMet_27 ki_m1 ?_
      refine g_icmp_eq 53 dX4_leastMet_28 (by decide) (fun c28 => ?_) (fun c28 => ?_)
      · rw [hv_open _ h8] at c28
        refine g_iload dX4_leastMet_53 rfl ?_
        refine g_ist5_2 dX4_leastMet_55 (by decide) rfl ?_
        first | refine g_incn5_3 dX4_leastMet_56 ki_1 (by decide) rfl ?_ | refine g_incg5_3 (nI 1) dX4_leastMet_56 ki_1 (by decide) rfl ?_
        refine g_goto 4 dX4_leastMet_59 (by decide) ?_
        rw [← hv_p (p := q.1.getD i 0) (by omega)]
        refine Go_sub [some (.ref 31), some (.int (nI k)), some (.int (hv (q.1.getD i 0))), some (.int (nI (i + 1))), none] (by simp [subL]) ?_
        have := ih (by omega)
        rw [lmP, if_pos (Or.inl c28)] at this
        exact this
      · rw [hv_open _ h8] at c28
        have hbest : lmP S k q.1 i < S 0 0 0 := by
          rcases lmP_mem (S := S) (k := k) (l := q.1) (fun p hp => by have := hb p hp; omega) hi with ⟨_, e⟩ | ⟨_, e⟩
          · omega
          · exact hb _ e
        have hl1 := hld _ hp
        have hl2 := hld _ hbest
        rw [hv_p (p := lmP S k q.1 i) (by omega)]
        refine g_aload_n dX4_leastMet_31 rfl ?_
        refine g_getr (j := 0) dX4_leastMet_32 gc4 rfl (by decide) rfl (by decide) fl_H_22 ?_
        refine g_iload dX4_leastMet_35 rfl ?_
        refine g_iload_n dX4_leastMet_37 rfl ?_
        refine g_call2 dX4_leastMet_38 clB_loadOf ml_H_86 gc0 rfl rfl (by decide) (Nat.le_of_ble_eq_true rfl) ?_
        refine SB_loadOf hB hp hk4 ?_
        refine g_aload_n dX4_leastMet_41 rfl ?_
        refine g_getr (j := 0) dX4_leastMet_42 gc4 rfl (by decide) rfl (by decide) fl_H_22 ?_
        refine g_iload_n dX4_leastMet_45 rfl ?_
        refine g_iload_n dX4_leastMet_46 rfl ?_
        refine g_call2 dX4_leastMet_47 clB_loadOf ml_H_86 gc0 rfl rfl (by decide) (Nat.le_of_ble_eq_true rfl) ?_
        refine SB_loadOf hB hbest hk4 ?_
        refine g_icmp_ge_n 56 dX4_leastMet_50 (by decide) (by omega) (by omega) (fun c50 => ?_) (fun c50 => ?_)
        · first | refine g_incn5_3 dX4_leastMet_56 ki_1 (by decide) rfl ?_ | refine g_incg5_3 (nI 1) dX4_leastMet_56 ki_1 (by decide) rfl ?_
          refine g_goto 4 dX4_leastMet_59 (by decide) ?_
          refine Go_sub [some (.ref 31), some (.int (nI k)), some (.int (nI (lmP S k q.1 i))), some (.int (nI (i + 1))), none] (by simp [subL]) ?_
          have := ih (by omega)
          rw [lmP, if_neg (by omega), hv_p (p := lmP S k q.1 i) (by omega)] at this
          exact this
        · refine g_iload dX4_leastMet_53 rfl ?_
          refine g_ist5_2 dX4_leastMet_55 (by decide) rfl ?_
          first | refine g_incn5_3 dX4_leastMet_56 ki_1 (by decide) rfl ?_ | refine g_incg5_3 (nI 1) dX4_leastMet_56 ki_1 (by decide) rfl ?_
          refine g_goto 4 dX4_leastMet_59 (by decide) ?_
          refine Go_sub [some (.ref 31), some (.int (nI k)), some (.int (nI (q.1.getD i 0))), some (.int (nI (i + 1))), none] (by simp [subL]) ?_
          have := ih (by omega)
          rw [lmP, if_pos (Or.inr (by omega)), hv_p (p := q.1.getD i 0) (by omega)] at this
          exact this
theorem shP_ho : ∀ {n : Nat} {S : BS} {b : Nat → Nat} {p a : Nat}, a ≠ 12 → shP n S b p a = S a
  | 0, S, b, p, a, _ => rfl
  | n + 1, S, b, p, a, h => by
    rw [shP]
    split
    · rw [shP_ho h]; funext x y; exact up_off (fun z => h z.1)
    · rfl
theorem shP_ho8 : ∀ {n : Nat} {S : BS} {b : Nat → Nat} {p : Nat}, (∀ d, d < 24 → S 12 d 0 ≤ 8) → p ≤ 8 → ∀ d, d < 24 → (shP n S b p) 12 d 0 ≤ 8
  | 0, S, b, p, h, _, d, hd => h d hd
  | n + 1, S, b, p, h, hp, d, hd => by
    rw [shP]
    split
    · rename_i hc
      refine shP_ho8 (fun e he => ?_) (h _ hc.2) d hd
      by_cases z : e = b p
      · subst z; rw [up_at]; exact hp
      · rw [up_off (by omega)]; exact h e he
    · exact h d hd
theorem SH_shiftTo {d : Nat} {M : Mm} {S : BS} {Q : Po} (hB : BK M S) {k : Nat} {o : Prop} {q : PS} (hq : PC M q) (hT : TR S k o q) {i : Nat} (hi : i < q.1.length) (h : ∀ M', EqO [2] M M' → BK M' (shP 8 S q.2 (q.1.getD i 0)) → Q M' none) : Call (d + 3) mH_shiftTo [.ref 31, .int (nI (q.1.getD i 0))] M Q := by
  have hw := hB.wf.np
  have hw2 := hB.wf.nd
  have hl := hT.len hB.wf
  obtain ⟨q1, q2, q3, q4, q5⟩ := id hq
  have hag0 : AG S S q i := fun j hj hlt => rfl
  have hfin := shP_more (dnP_of hB.wf hT hi hag0) (8 - (i + 1))
  rw [show i + 1 + (8 - (i + 1)) = 8 by omega] at hfin
  rw [hfin] at h
  clear hfin
  refine Call_of (m := mH_shiftTo) [some (.ref 31), some (.int (nI (q.1.getD i 0))), none, none, none, none] rfl (fun G => Nat.le_of_ble_eq_true rfl) (fun G => rfl) ?_
  refine g_iload_n dX4_shiftTo_0 rfl ?_
  refine g_ist6_2 dX4_shiftTo_1 (by decide) rfl ?_
  refine g_iconst (nI 0) dX4_shiftTo_2 ki_0 ?_
  refine g_ist6_3 dX4_shiftTo_3 (by decide) rfl ?_
  have hend : ∀ (M' : Mm) (S' : BS) (s : Nat) (a : Int32), s < 8 → BK M' S' → (∀ b, b ≠ 12 → S' b = S b) → Q M' none → Go mH_shiftTo (d + 3) Q 4 [some (.ref 31), some (.int a), some (.int (-1)), some (.int (nI s)), none, none] [] M' := by
    intro M' S' s a hs hB' hS' hQ
    refine g_iload_n dX4_shiftTo_4 rfl ?_
    refine g_bipush (nI 8) dX4_shiftTo_5 kb_8 ?_
    refine g_icmp_ge_n 72 dX4_shiftTo_7 (by decide) (by omega) (by omega) (fun c7 => ?_) (fun c7 => ?_)
    · exact absurd hs (by omega)
    · refine g_aload_n dX4_shiftTo_10 rfl ?_
      refine g_getr (j := 0) dX4_shiftTo_11 gc4 rfl (by decide) rfl (by decide) fl_H_22 ?_
      refine g_iload_n dX4_shiftTo_14 rfl ?_
      refine g_call1 dX4_shiftTo_15 clB_isOne ml_H_94 gc0 rfl rfl (by decide) (Nat.le_of_ble_eq_true rfl) ?_
      refine SB_isOne hB' _ ?_
      rw [inR_m1]
      refine g_if_eq_ff 72 dX4_shiftTo_18 (by decide) ?_
      refine g_return dX4_shiftTo_72 rfl ?_
      exact hQ
  suffices hloop : ∀ (i : Nat) (M' : Mm) (S' : BS) (s : Nat) (a : Int32), i < q.1.length → s + i + 1 ≤ 8 → EqO [2] M M' → BK M' S' → (∀ b, b ≠ 12 → S' b = S b) → AG S S' q i → (∀ M2, EqO [2] M' M2 → BK M2 (shP (i + 1) S' q.2 (q.1.getD i 0)) → Q M2 none) → Go mH_shiftTo (d + 3) Q 4 [some (.ref 31), some (.int a), some (.int (nI (q.1.getD i 0))), some (.int (nI s)), none, none] [] M' by
    exact hloop i M S 0 _ hi (by omega) EqO.rf hB (fun _ _ => rfl) hag0 h
  intro i
  induction i using Nat.strongRecOn with
  | ind i ih =>
    intro M' S' s a hi hsi hE hB' hS' hag hQ
    have hp := hT.2.1 _ (getD_mem hi)
    have e0 : S' 0 0 0 = S 0 0 0 := by rw [hS' 0 (by decide)]
    have e1 : S' 1 0 0 = S 1 0 0 := by rw [hS' 1 (by decide)]
    have e33 : M' 33 (q.1.getD i 0) = bv (q.2 (q.1.getD i 0)) := by rw [hE 33 (by decide)]; exact q5 _ (getD_mem hi)
    refine g_iload_n dX4_shiftTo_4 rfl ?_
    refine g_bipush (nI 8) dX4_shiftTo_5 kb_8 ?_
    refine g_icmp_ge_n 72 dX4_shiftTo_7 (by decide) (by omega) (by omega) (fun c7 => ?_) (fun c7 => ?_)
    · exact absurd hsi (by omega)
    · skip
      refine g_aload_n dX4_shiftTo_10 rfl ?_
      refine g_getr (j := 0) dX4_shiftTo_11 gc4 rfl (by decide) rfl (by decide) fl_H_22 ?_
      refine g_iload_n dX4_shiftTo_14 rfl ?_
      refine g_call1 dX4_shiftTo_15 clB_isOne ml_H_94 gc0 rfl rfl (by decide) (Nat.le_of_ble_eq_true rfl) ?_
      refine SB_isOneT hB' (by rw [e0]; exact hp) ?_
      refine g_if_eq_tt 72 dX4_shiftTo_18 (by decide) ?_
      refine g_aload_n dX4_shiftTo_21 rfl ?_
      refine g_getr (j := 2) dX4_shiftTo_22 gc4 rfl (by decide) rfl (by decide) fl_H_15 ?_
      refine g_iload_n dX4_shiftTo_25 rfl ?_
      refine g_iald_n dX4_shiftTo_26 (by first | rfl | assumption) (by first | decide | assumption) (by omega) (by omega) ?_
      try simp (disch := omega) only [e33]
      refine g_ist6_4 dX4_shiftTo_27 (by decide) rfl ?_
      refine g_aload_n dX4_shiftTo_29 rfl ?_
      refine g_getr (j := 0) dX4_shiftTo_30 gc4 rfl (by decide) rfl (by decide) fl_H_22 ?_
      refine g_iload dX4_shiftTo_33 rfl ?_
      refine g_call1 dX4_shiftTo_35 clB_isDuty ml_H_97 gc0 rfl rfl (by decide) (Nat.le_of_ble_eq_true rfl) ?_
      refine SB_isDuty hB' _ ?_
      rcases hT.2.2 i hi with ⟨a1, a2, a3⟩ | ⟨a1, a2, a3, a4⟩
      · rw [a1, show bv 24 = -1 from rfl, inR_m1]
        refine g_if_ne_ff 42 dX4_shiftTo_38 (by decide) ?_
        refine g_return dX4_shiftTo_41 rfl ?_
        refine hQ M' EqO.rf ?_
        rw [shP, if_neg (fun z => by omega)]; exact hB'
      · have hlt : q.2 (q.1.getD i 0) < 24 := by omega
        rw [show bv (q.2 (q.1.getD i 0)) = nI (q.2 (q.1.getD i 0)) by unfold bv; rw [if_neg (by omega)], inR_nI (by omega), e1, decide_eq_true a1]
        refine g_if_ne_tt 42 dX4_shiftTo_38 (by decide) ?_
        refine g_aload_n dX4_shiftTo_42 rfl ?_
        refine g_getr (j := 0) dX4_shiftTo_43 gc4 rfl (by decide) rfl (by decide) fl_H_22 ?_
        refine g_iload dX4_shiftTo_46 rfl ?_
        refine g_call1 dX4_shiftTo_48 clB_holderOf ml_H_48 gc0 rfl rfl (by decide) (Nat.le_of_ble_eq_true rfl) ?_
        refine SB_holderOf hB' (by rw [e1]; exact a1) ?_
        refine g_ist6_5 dX4_shiftTo_51 (by decide) rfl ?_
        refine g_aload_n dX4_shiftTo_53 rfl ?_
        refine g_getr (j := 0) dX4_shiftTo_54 gc4 rfl (by decide) rfl (by decide) fl_H_22 ?_
        refine g_iload dX4_shiftTo_57 rfl ?_
        refine g_iload_n dX4_shiftTo_59 rfl ?_
        refine g_call2 dX4_shiftTo_60 clB_putHolder ml_H_100 gc0 rfl rfl (by decide) (Nat.le_of_ble_eq_true rfl) ?_
        refine SB_putHolder hB' (by rw [e1]; exact a1) ?_
        refine g_iload dX4_shiftTo_63 rfl ?_
        refine g_ist6_2 dX4_shiftTo_65 (by decide) rfl ?_
        first | refine g_incn6_3 dX4_shiftTo_66 ki_1 (by decide) rfl ?_ | refine g_incg6_3 (nI 1) dX4_shiftTo_66 ki_1 (by decide) rfl ?_
        refine g_goto 4 dX4_shiftTo_69 (by decide) ?_
        have hB2 := hB'.hol1 (e := q.2 (q.1.getD i 0)) (q := q.1.getD i 0) (by rw [e1]; exact a1) (by omega)
        rw [hv_p (p := q.1.getD i 0) (by omega)] at hB2
        have hS2 : ∀ b, b ≠ 12 → up S' 12 (q.2 (q.1.getD i 0)) 0 (q.1.getD i 0) b = S b := fun b hb => by
          rw [← hS' b hb]; funext y z; exact up_off (fun w => hb w.1)
        rcases AG_step hB.wf hT hi hlt hag with ⟨_, e8⟩ | ⟨j, hj, e, hag2⟩
        · rw [e8, hv_8]
          refine Go_sub [some (.ref 31), some (.int a), some (.int (-1)), some (.int (nI (s + 1))), none, none] (by simp [subL]) ?_
          rcases Nat.lt_or_ge (s + 1) 8 with y | y
          · refine hend _ _ _ _ y hB2 hS2 (hQ _ (EqO.set (by decide)) ?_)
            rw [shP, if_pos ⟨by omega, hlt⟩, e8, shP_8]; exact hB2
          · skip
            refine g_iload_n dX4_shiftTo_4 rfl ?_
            refine g_bipush (nI 8) dX4_shiftTo_5 kb_8 ?_
            refine g_icmp_ge_n 72 dX4_shiftTo_7 (by decide) (by omega) (by omega) (fun c7 => ?_) (fun c7 => ?_)
            · refine g_return dX4_shiftTo_72 rfl ?_
              refine hQ _ (EqO.set (by decide)) ?_
              rw [shP, if_pos ⟨by omega, hlt⟩, e8, shP_8]; exact hB2
            · exact absurd y (by omega)
        · rw [← e, hv_p (p := q.1.getD j 0) (by have := hT.2.1 _ (getD_mem (show j < q.1.length by omega)); omega)]
          refine Go_sub [some (.ref 31), some (.int a), some (.int (nI (q.1.getD j 0))), some (.int (nI (s + 1))), none, none] (by simp [subL]) ?_
          refine ih j hj _ _ _ _ (by omega) (by omega) (hE.tr (EqO.set (by decide))) hB2 hS2 hag2 (fun M2 hE2 hB3 => hQ M2 ((EqO.set (by decide)).tr hE2) ?_)
          rw [shP_step hB.wf hT hi hlt hag hj e hag2]; exact hB3
