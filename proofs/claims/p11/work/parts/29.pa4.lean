/-! PATHS in the reference -/
def EqQ (L : List Nat) (M M' : Mm) : Prop := ∀ k j, k ∉ L → (k = 57 → j = 2 ∨ j = 19 ∨ j = 31) → M' k j = M k j
theorem EqQ.rf {L : List Nat} {M : Mm} : EqQ L M M := fun _ _ _ _ => rfl
theorem EqQ.tr {L : List Nat} {M M1 M2 : Mm} (h1 : EqQ L M M1) (h2 : EqQ L M1 M2) : EqQ L M M2 := fun k j hk hj => (h2 k j hk hj).trans (h1 k j hk hj)
theorem EqQ.sub {L L' : List Nat} {M M' : Mm} (h : EqQ L M M') (hs : ∀ k ∈ L, k ∈ L') : EqQ L' M M' := fun k j hk hj => h k j (fun e => hk (hs k e)) hj
theorem EqQ.ofO {L : List Nat} {M M' : Mm} (h : EqO L M M') : EqQ L M M' := fun k j hk _ => by rw [h k hk]
theorem EqQ.set {L : List Nat} {M : Mm} {k j : Nat} {v : Int32} (h : k ∈ L) : EqQ L M (mset M k j v) := EqQ.ofO (EqO.set h)
theorem EqQ.set57 {L : List Nat} {M : Mm} {j : Nat} {v : Int32} (h : j ≠ 2 ∧ j ≠ 19 ∧ j ≠ 31) : EqQ L M (mset M 57 j v) := fun k i _ hi => mset_off (fun e => by have := hi e.1; omega)
theorem EqQ.row {L : List Nat} {M M' : Mm} (h : EqQ L M M') {k : Nat} (hk : k ∉ L) (h57 : k ≠ 57) : M' k = M k := funext fun j => h k j hk (fun e => absurd e h57)
theorem FrM.ofQ {L : List Nat} {M M' : Mm} (h : EqQ L M M') (hL : ∀ k ∈ L, k ∈ LM) : FrM M M' := fun k j hk => by
  refine h k j (fun e => ?_) (fun e => ?_)
  · have := LM_in (hL k e)
    unfold okO at hk
    omega
  · subst e
    unfold okO at hk
    omega
theorem MK.eqQ {L : List Nat} {M M' : Mm} {S : BS} (h : MK (M 58) S) (hE : EqQ L M M') (hL : 58 ∉ L) : MK (M' 58) S := by rw [hE.row hL (by decide)]; exact h
abbrev PN (M : Mm) (q : PS) : Prop := PR (M 57 7) (M 63) (M 64) (M 65) q
theorem SM_begins {d : Nat} {M : Mm} {Q : Po} (h : ∀ M', EqQ [65] M M' → PN M' ([], fun _ => 24) → Q M' none) : Call (d + 1) mM_begins [.ref 57] M Q := by
  refine Call_of (m := mM_begins) [some (.ref 57), none] rfl (fun G => Nat.le_of_ble_eq_true rfl) (fun G => rfl) ?_
  refine g_aload_n dX10_begins_0 rfl ?_
  refine g_iconst (nI 0) dX10_begins_1 ki_0 ?_
  refine g_puti (j := 7) dX10_begins_2 gc10 rfl (by decide) rfl (by decide) fl_M_155 rfl (tyX10_ok 7 (by decide)) (by first | rfl | exact nar_bI _) rfl ?_
  refine g_iconst (nI 0) dX10_begins_5 ki_0 ?_
  refine g_ist2_1 dX10_begins_6 (by decide) rfl ?_
  refine loop_up (P := fun i => ∀ M', EqQ [65] M M' → M' 57 7 = nI 0 → (∀ p, p < i → M' 65 p = nI 0) → Go mM_begins (d + 1) Q 7 [some (.ref 57), some (.int (nI i))] [] M') 8 ?_ 0 (Nat.zero_le _) _ (EqQ.set57 (by decide)) (by rw [mset_at]) (fun p hp => absurd hp (by omega))
  intro i hi ih M' hE h4 h34
  refine g_iload_n dX10_begins_7 rfl ?_
  refine g_bipush (nI 8) dX10_begins_8 kb_8 ?_
  refine g_icmp_ge_n 26 dX10_begins_10 (by decide) (by omega) (by omega) (fun c10 => ?_) (fun c10 => ?_)
  · refine g_return dX10_begins_26 rfl ?_
    exact h M' hE ⟨h4, by simp, fun i hi => by simp at hi, fun p hp => by rw [h34 p (by omega)]; simp [bI], fun p hp => by simp at hp⟩
  · refine g_aload_n dX10_begins_13 rfl ?_
    refine g_getr (j := 9) dX10_begins_14 gc10 rfl (by decide) rfl (by decide) fl_M_31 ?_
    refine g_iload_n dX10_begins_17 rfl ?_
    refine g_iconst (nI 0) dX10_begins_18 ki_0 ?_
    refine g_bast_n dX10_begins_19 rfl (by decide) (by decide) (by omega) (by first | rfl | exact vnar_bI _ | assumption) ?_
    first | refine g_incn2_1 dX10_begins_20 ki_1 (by decide) rfl ?_ | refine g_incg2_1 (nI 1) dX10_begins_20 ki_1 (by decide) rfl ?_
    refine g_goto 7 dX10_begins_23 (by decide) ?_
    refine ih (by omega) _ (hE.tr (EqQ.set (by decide))) (by rw [mset_off (by omega)]; exact h4) (fun p hp => ?_)
    by_cases e : p = i
    · subst e; rw [mset_at]
    · rw [mset_off (by omega)]; exact h34 p (by omega)
theorem SM_comesBy {d : Nat} {M : Mm} {S : BS} {Q : Po} (hM : MK (M 58) S) {q : PS} (hq : PN M q) (hn : q.1.Nodup) (hb : ∀ x ∈ q.1, x < S 0 0 0) {p e : Nat} {x : Int32} (hp : p < S 0 0 0) (hx : x = bv e) (h : ∀ M', EqQ [63, 64, 65] M M' → PN M' (meetP q p e) → Q M' none) : Call (d + 1) mM_comesBy [.ref 57, .int (nI p), .int x] M Q := by
  have hw := hM.wf.np
  obtain ⟨q1, q2, q3, q4, q5⟩ := id hq
  have q4p := q4 p (by omega)
  refine Call_of (m := mM_comesBy) [some (.ref 57), some (.int (nI p)), some (.int x)] rfl (fun G => Nat.le_of_ble_eq_true rfl) (fun G => rfl) ?_
  refine g_aload_n dX10_comesBy_0 rfl ?_
  refine g_getr (j := 9) dX10_comesBy_1 gc10 rfl (by decide) rfl (by decide) fl_M_31 ?_
  refine g_iload_n dX10_comesBy_4 rfl ?_
  refine g_bald_n dX10_comesBy_5 rfl (by decide) (by decide) (by omega) ?_
  try simp (disch := omega) only [q1, q4p]
  refine g_if_ne_b 43 dX10_comesBy_6 (by decide) (fun c6 => ?_) (fun c6 => ?_)
  · have hin : p ∈ q.1 := of_decide_eq_true c6
    refine g_return dX10_comesBy_43 rfl ?_
    have e1 : meetP q p e = q := if_pos hin
    exact h M EqQ.rf (by rw [e1]; exact hq)
  · have hni : p ∉ q.1 := of_decide_eq_false c6
    have hlen : q.1.length < 8 := by
      have := nodup_len (n := S 0 0 0) (l := q.1 ++ [p]) (by
        rw [List.nodup_append]
        refine ⟨hn, by simp, fun a ha b hb2 e => ?_⟩
        rw [List.mem_singleton] at hb2
        subst hb2
        subst e
        exact hni ha) (fun z hz => by
        rcases List.mem_append.mp hz with y | y
        · exact hb z y
        · rw [List.mem_singleton.mp y]; exact hp)
      rw [List.length_append, List.length_singleton] at this
      omega
    skip
    refine g_aload_n dX10_comesBy_9 rfl ?_
    refine g_getr (j := 9) dX10_comesBy_10 gc10 rfl (by decide) rfl (by decide) fl_M_31 ?_
    refine g_iload_n dX10_comesBy_13 rfl ?_
    refine g_iconst (nI 1) dX10_comesBy_14 ki_1 ?_
    refine g_bast_n dX10_comesBy_15 rfl (by decide) (by decide) (by omega) (by first | rfl | exact vnar_bI _ | assumption) ?_
    refine g_aload_n dX10_comesBy_16 rfl ?_
    refine g_getr (j := 8) dX10_comesBy_17 gc10 rfl (by decide) rfl (by decide) fl_M_28 ?_
    refine g_iload_n dX10_comesBy_20 rfl ?_
    refine g_iload_n dX10_comesBy_21 rfl ?_
    refine g_iast_n dX10_comesBy_22 (by first | rfl | assumption) (by first | decide | assumption) (by omega) (by omega) ?_
    refine g_aload_n dX10_comesBy_23 rfl ?_
    refine g_getr (j := 6) dX10_comesBy_24 gc10 rfl (by decide) rfl (by decide) fl_M_25 ?_
    refine g_aload_n dX10_comesBy_27 rfl ?_
    refine g_geti (j := 7) dX10_comesBy_28 gc10 rfl (by decide) rfl (by decide) fl_M_155 ?_
    try simp (disch := omega) only [q1, mset_off]
    refine g_iload_n dX10_comesBy_31 rfl ?_
    refine g_iast_n dX10_comesBy_32 (by first | rfl | assumption) (by first | decide | assumption) (by omega) (by omega) ?_
    refine g_aload_n dX10_comesBy_33 rfl ?_
    refine g_dup dX10_comesBy_34 rfl ?_
    refine g_geti (j := 7) dX10_comesBy_35 gc10 rfl (by decide) rfl (by decide) fl_M_155 ?_
    try simp (disch := omega) only [q1, mset_off]
    refine g_iconst (nI 1) dX10_comesBy_38 ki_1 ?_
    first | refine g_iadd_n dX10_comesBy_39 ?_ | refine g_iadd dX10_comesBy_39 ?_
    refine g_puti (j := 7) dX10_comesBy_40 gc10 rfl (by decide) rfl (by decide) fl_M_155 rfl (tyX10_ok 7 (by decide)) (by first | rfl | exact nar_bI _) rfl ?_
    refine g_return dX10_comesBy_43 rfl ?_
    refine h _ ?_ ?_
    · exact (EqQ.set (by decide)).tr ((EqQ.set (by decide)).tr ((EqQ.set (by decide)).tr (EqQ.set57 (by decide))))
    · refine (hq.meet (d := e) hni (by omega) hlen).eqO ?_ ?_ ?_ ?_
      · rw [mset_at]
      · rw [mset_ne (by decide), mset_row, mset_ne (by decide), mset_ne (by decide)]
      · rw [mset_ne (by decide), mset_ne (by decide), mset_row, mset_ne (by decide), hx]
      · rw [mset_ne (by decide), mset_ne (by decide), mset_ne (by decide), mset_row]
theorem SM_goesFromDuty {d : Nat} {M : Mm} {S : BS} {Q : Po} (hM : MK (M 58) S) {k : Nat} {o : Prop} {q : PS} (hq : PN M q) (hT : TR S k o q) {e : Nat} (he : e < S 1 0 0) (hk : S 11 e 0 = k) (hb : (o ∧ S 12 e 0 = 8) ∨ S 12 e 0 ∈ q.1) (h : ∀ M', EqQ [63, 64, 65] M M' → PN M' (mwP S e (S 0 0 0) q) → Q M' none) : Call (d + 5) mM_goesFromDuty [.ref 57, .int (nI e)] M Q := by
  have hw := hM.wf.np
  have hw2 := hM.wf.nd
  refine Call_of (m := mM_goesFromDuty) [some (.ref 57), some (.int (nI e)), none] rfl (fun G => Nat.le_of_ble_eq_true rfl) (fun G => rfl) ?_
  refine g_iconst (nI 0) dX10_goesFromDuty_0 ki_0 ?_
  refine g_ist3_2 dX10_goesFromDuty_1 (by decide) rfl ?_
  refine loop_up (P := fun i => ∀ M', EqQ [63, 64, 65] M M' → PN M' (mwP S e i q) → Go mM_goesFromDuty (d + 5) Q 2 [some (.ref 57), some (.int (nI e)), some (.int (nI i))] [] M') (S 0 0 0) ?_ 0 (Nat.zero_le _) M EqQ.rf hq
  intro i hi ih M' hE hq'
  have hM' := hM.eqQ hE (by decide)
  obtain ⟨t1, t2⟩ := mwP_ok he hk hi hT hb
  refine g_iload_n dX10_goesFromDuty_2 rfl ?_
  refine g_aload_n dX10_goesFromDuty_3 rfl ?_
  refine g_getr (j := 0) dX10_goesFromDuty_4 gc10 rfl (by decide) rfl (by decide) fl_M_9 ?_
  refine g_iconst (nI 0) dX10_goesFromDuty_7 ki_0 ?_
  refine g_iald_n dX10_goesFromDuty_8 (by first | rfl | assumption) (by first | decide | assumption) (by omega) (by omega) ?_
  try simp (disch := omega) only [hM'.np]
  refine g_icmp_ge_n 33 dX10_goesFromDuty_9 (by decide) (by omega) (by omega) (fun c9 => ?_) (fun c9 => ?_)
  · refine g_return dX10_goesFromDuty_33 rfl ?_
    rw [show i = S 0 0 0 by omega] at hq'
    exact h M' hE hq'
  · skip
    refine g_aload_n dX10_goesFromDuty_12 rfl ?_
    refine g_iload_n dX10_goesFromDuty_13 rfl ?_
    refine g_iload_n dX10_goesFromDuty_14 rfl ?_
    refine g_call2 dX10_goesFromDuty_15 clM_mayHold ml_M_113 gc10 rfl rfl (by decide) (Nat.le_of_ble_eq_true rfl) ?_
    refine SM_mayHold hM' (by omega) he ?_
    refine g_if_eq_b 27 dX10_goesFromDuty_18 (by decide) (fun c18 => ?_) (fun c18 => ?_)
    · first | refine g_incn3_2 dX10_goesFromDuty_27 ki_1 (by decide) rfl ?_ | refine g_incg3_2 (nI 1) dX10_goesFromDuty_27 ki_1 (by decide) rfl ?_
      refine g_goto 2 dX10_goesFromDuty_30 (by decide) ?_
      refine ih (by omega) M' hE ?_
      rw [mwP, if_neg (by rw [c18]; decide)]; exact hq'
    · refine g_aload_n dX10_goesFromDuty_21 rfl ?_
      refine g_iload_n dX10_goesFromDuty_22 rfl ?_
      refine g_iload_n dX10_goesFromDuty_23 rfl ?_
      refine g_call2 dX10_goesFromDuty_24 clM_comesBy ml_M_159 gc10 rfl rfl (by decide) (Nat.le_of_ble_eq_true rfl) ?_
      refine SM_comesBy hM' hq' t1.1 t1.2.1 (e := e) (by omega) (by unfold bv; rw [if_neg (by omega)]) (fun M2 hE2 hq2 => ?_)
      first | refine g_incn3_2 dX10_goesFromDuty_27 ki_1 (by decide) rfl ?_ | refine g_incg3_2 (nI 1) dX10_goesFromDuty_27 ki_1 (by decide) rfl ?_
      refine g_goto 2 dX10_goesFromDuty_30 (by decide) ?_
      refine ih (by omega) M2 (hE.tr hE2) ?_
      rw [mwP, if_pos c18]; exact hq2
theorem SM_goesOn {d : Nat} {M : Mm} {S : BS} {Q : Po} (hM : MK (M 58) S) {k : Nat} (hk4 : k < 4) {o : Prop} {q : PS} (hq : PN M q) (hT : TR S k o q) (h : ∀ M', EqQ [63, 64, 65] M M' → PN M' (gsP S k 8 0 q) → Q M' none) : Call (d + 6) mM_goesOn [.ref 57, .int (nI k)] M Q := by
  have hw := hM.wf.np
  have hw2 := hM.wf.nd
  refine Call_of (m := mM_goesOn) [some (.ref 57), some (.int (nI k)), none, none] rfl (fun G => Nat.le_of_ble_eq_true rfl) (fun G => rfl) ?_
  refine g_iconst (nI 0) dX10_goesOn_0 ki_0 ?_
  refine g_ist4_2 dX10_goesOn_1 (by decide) rfl ?_
  suffices hloop : ∀ f i, i + f = 8 → ∀ M' q', EqQ [63, 64, 65] M M' → PN M' q' → TR S k o q' → gsP S k f i q' = gsP S k 8 0 q → Go mM_goesOn (d + 6) Q 2 [some (.ref 57), some (.int (nI k)), some (.int (nI i)), none] [] M' by
    exact hloop 8 0 rfl M q EqQ.rf hq hT rfl
  intro f
  induction f with
  | zero =>
    intro i hif M' q' hE hq' hT' hg
    have e4 := hq'.1
    have hl := hT'.len hM.wf
    refine g_iload_n dX10_goesOn_2 rfl ?_
    refine g_aload_n dX10_goesOn_3 rfl ?_
    refine g_geti (j := 7) dX10_goesOn_4 gc10 rfl (by decide) rfl (by decide) fl_M_155 ?_
    try simp (disch := omega) only [e4]
    refine g_icmp_ge_n 67 dX10_goesOn_7 (by decide) (by omega) (by omega) (fun c7 => ?_) (fun c7 => ?_)
    · refine g_return dX10_goesOn_67 rfl ?_
      refine h M' hE ?_
      rw [← hg]; exact hq'
    · exact absurd hl (by omega)
  | succ f ih =>
    intro i hif M' q' hE hq' hT' hg
    have hM' := hM.eqQ hE (by decide)
    have e4 := hq'.1
    have hl := hT'.len hM.wf
    refine g_iload_n dX10_goesOn_2 rfl ?_
    refine g_aload_n dX10_goesOn_3 rfl ?_
    refine g_geti (j := 7) dX10_goesOn_4 gc10 rfl (by decide) rfl (by decide) fl_M_155 ?_
    try simp (disch := omega) only [e4]
    refine g_icmp_ge_n 67 dX10_goesOn_7 (by decide) (by omega) (by omega) (fun c7 => ?_) (fun c7 => ?_)
    · refine g_return dX10_goesOn_67 rfl ?_
      refine h M' hE ?_
      rw [← hg, gsP, if_neg (by omega)]; exact hq'
    · have hmi : q'.1.getD i 0 ∈ q'.1 := getD_mem (by omega)
      have hpi := hT'.2.1 _ hmi
      refine g_iconst (nI 0) dX10_goesOn_10 ki_0 ?_
      refine g_ist4_3 dX10_goesOn_11 (by decide) rfl ?_
      refine loop_up (P := fun n => ∀ M2, EqQ [63, 64, 65] M M2 → PN M2 (gdP S k (q'.1.getD i 0) n q') → Go mM_goesOn (d + 6) Q 12 [some (.ref 57), some (.int (nI k)), some (.int (nI i)), some (.int (nI n))] [] M2) (S 1 0 0) ?_ 0 (Nat.zero_le _) M' hE hq'
      intro n hn nh M2 hE2 hq2
      have hM2 := hM.eqQ hE2 (by decide)
      obtain ⟨t1, t2⟩ := gdP_ok (n := n) hn hT' hmi
      have e32 : M2 63 i = nI (q'.1.getD i 0) := by
        rw [hq2.2.2.1 i (by have := t2.1; omega), t2.2.1 i (by omega)]
      refine g_iload_n dX10_goesOn_12 rfl ?_
      refine g_aload_n dX10_goesOn_13 rfl ?_
      refine g_getr (j := 0) dX10_goesOn_14 gc10 rfl (by decide) rfl (by decide) fl_M_9 ?_
      refine g_iconst (nI 2) dX10_goesOn_17 ki_2 ?_
      refine g_iald_n dX10_goesOn_18 (by first | rfl | assumption) (by first | decide | assumption) (by omega) (by omega) ?_
      try simp (disch := omega) only [hM2.nd, hM2.kd, e32]
      refine g_icmp_ge_n 61 dX10_goesOn_19 (by decide) (by omega) (by omega) (fun c19 => ?_) (fun c19 => ?_)
      · first | refine g_incn4_2 dX10_goesOn_61 ki_1 (by decide) rfl ?_ | refine g_incg4_2 (nI 1) dX10_goesOn_61 ki_1 (by decide) rfl ?_
        refine g_goto 2 dX10_goesOn_64 (by decide) ?_
        refine Go_sub [some (.ref 57), some (.int (nI k)), some (.int (nI (i + 1))), none] (by simp [subL]) (ih (i + 1) (by omega) M2 (gdP S k (q'.1.getD i 0) (S 1 0 0) q') hE2 ?_ ?_ ?_)
        · rw [show n = S 1 0 0 by omega] at hq2; exact hq2
        · rw [show n = S 1 0 0 by omega] at t1; exact t1
        · rw [← hg, gsP, if_pos (by omega)]
      · have hdk := hM.wf.dk (d := n) (by omega)
        refine g_aload_n dX10_goesOn_22 rfl ?_
        refine g_getr (j := 0) dX10_goesOn_23 gc10 rfl (by decide) rfl (by decide) fl_M_9 ?_
        refine g_sipush (nI 275) dX10_goesOn_26 ks_275 ?_
        refine g_iload_n dX10_goesOn_29 rfl ?_
        first | refine g_iadd_n dX10_goesOn_30 ?_ | refine g_iadd dX10_goesOn_30 ?_
        refine g_iald_n dX10_goesOn_31 (by first | rfl | assumption) (by first | decide | assumption) (by omega) (by omega) ?_
        try simp (disch := omega) only [hM2.nd, hM2.kd, e32]
        refine g_iload_n dX10_goesOn_32 rfl ?_
        refine g_icmp_ne_n 55 dX10_goesOn_33 (by decide) (by omega) (by omega) (fun c33 => ?_) (fun c33 => ?_)
        · first | refine g_incn4_3 dX10_goesOn_55 ki_1 (by decide) rfl ?_ | refine g_incg4_3 (nI 1) dX10_goesOn_55 ki_1 (by decide) rfl ?_
          refine g_goto 12 dX10_goesOn_58 (by decide) ?_
          refine nh (by omega) M2 hE2 ?_
          rw [gdP, if_neg (fun z => c33 z.1)]; exact hq2
        · skip
          refine g_aload_n dX10_goesOn_36 rfl ?_
          refine g_iload_n dX10_goesOn_37 rfl ?_
          refine g_call1 dX10_goesOn_38 clM_holder ml_M_78 gc10 rfl rfl (by decide) (Nat.le_of_ble_eq_true rfl) ?_
          refine SM_holder hM2 (by omega) ?_
          refine g_aload_n dX10_goesOn_41 rfl ?_
          refine g_getr (j := 6) dX10_goesOn_42 gc10 rfl (by decide) rfl (by decide) fl_M_25 ?_
          refine g_iload_n dX10_goesOn_45 rfl ?_
          refine g_iald_n dX10_goesOn_46 (by first | rfl | assumption) (by first | decide | assumption) (by omega) (by omega) ?_
          try simp (disch := omega) only [hM2.nd, hM2.kd, e32]
          refine g_icmp_ne 55 dX10_goesOn_47 (by decide) (fun c47 => ?_) (fun c47 => ?_)
          · rw [hv_eq hdk.2.2 (by omega)] at c47
            first | refine g_incn4_3 dX10_goesOn_55 ki_1 (by decide) rfl ?_ | refine g_incg4_3 (nI 1) dX10_goesOn_55 ki_1 (by decide) rfl ?_
            refine g_goto 12 dX10_goesOn_58 (by decide) ?_
            refine nh (by omega) M2 hE2 ?_
            rw [gdP, if_neg (fun z => c47 z.2)]; exact hq2
          · rw [hv_eq hdk.2.2 (by omega)] at c47
            refine g_aload_n dX10_goesOn_50 rfl ?_
            refine g_iload_n dX10_goesOn_51 rfl ?_
            refine g_call1 dX10_goesOn_52 clM_goesFromDuty ml_M_162 gc10 rfl rfl (by decide) (Nat.le_of_ble_eq_true rfl) ?_
            refine SM_goesFromDuty hM2 hq2 t1 (by omega) c33 (Or.inr (by rw [c47]; exact (t2.2.2 _ hmi).1)) (fun M3 hE3 hq3 => ?_)
            first | refine g_incn4_3 dX10_goesOn_55 ki_1 (by decide) rfl ?_ | refine g_incg4_3 (nI 1) dX10_goesOn_55 ki_1 (by decide) rfl ?_
            refine g_goto 12 dX10_goesOn_58 (by decide) ?_
            refine nh (by omega) M3 (hE2.tr hE3) ?_
            rw [gdP, if_pos ⟨c33, c47⟩]; exact hq3
theorem SM_leastCome {d : Nat} {M : Mm} {S : BS} {Q : Po} (hM : MK (M 58) S) {k : Nat} (hk4 : k < 4) {q : PS} (hq : PN M q) (hb : ∀ x ∈ q.1, x < S 0 0 0) (h : Q M (some (.int (hv (lmP S k q.1 q.1.length))))) : Call (d + 5) mM_leastCome [.ref 57, .int (nI k)] M Q := by
  have hw := hM.wf.np
  have hw2 := hM.wf.nd
  obtain ⟨q1, q2, q3, q4, q5⟩ := id hq
  refine Call_of (m := mM_leastCome) [some (.ref 57), some (.int (nI k)), none, none] rfl (fun G => Nat.le_of_ble_eq_true rfl) (fun G => rfl) ?_
  refine g_iconst ((-1)) dX10_leastCome_0 ki_m1 ?_
  refine g_ist4_2 dX10_leastCome_1 (by decide) rfl ?_
  refine g_iconst (nI 0) dX10_leastCome_2 ki_0 ?_
  refine g_ist4_3 dX10_leastCome_3 (by decide) rfl ?_
  refine loop_up (P := fun i => Go mM_leastCome (d + 5) Q 4 [some (.ref 57), some (.int (nI k)), some (.int (hv (lmP S k q.1 i))), some (.int (nI i))] [] M) q.1.length ?_ 0 (Nat.zero_le _)
  intro i hi ih
  refine g_iload_n dX10_leastCome_4 rfl ?_
  refine g_aload_n dX10_leastCome_5 rfl ?_
  refine g_geti (j := 7) dX10_leastCome_6 gc10 rfl (by decide) rfl (by decide) fl_M_155 ?_
  try simp (disch := omega) only [q1, q3]
  refine g_icmp_ge_n 53 dX10_leastCome_9 (by decide) (by omega) (by omega) (fun c9 => ?_) (fun c9 => ?_)
  · refine g_iload_n dX10_leastCome_53 rfl ?_
    refine g_ireturn dX10_leastCome_54 rfl (by first | rfl | exact nar_bI _) ?_
    rw [show i = q.1.length by omega]; exact h
  · have hp := hb _ (getD_mem (show i < q.1.length by omega))
    have h8 : lmP S k q.1 i ≤ 8 := by
      rcases lmP_mem (S := S) (k := k) (l := q.1) (fun p hp => by have := hb p hp; omega) hi with ⟨_, e⟩ | ⟨_, e⟩
      · omega
      · have := hb _ e; omega
    refine g_iload_n dX10_leastCome_12 rfl ?_
    refine g_if_lt 36 dX10_leastCome_13 (by decide) (fun c13 => ?_) (fun c13 => ?_)
    · rw [hv_lt h8] at c13
      refine g_aload_n dX10_leastCome_36 rfl ?_
      refine g_getr (j := 6) dX10_leastCome_37 gc10 rfl (by decide) rfl (by decide) fl_M_25 ?_
      refine g_iload_n dX10_leastCome_40 rfl ?_
      refine g_iald_n dX10_leastCome_41 (by first | rfl | assumption) (by first | decide | assumption) (by omega) (by omega) ?_
      try simp (disch := omega) only [q1, q3]
      refine g_goto 46 dX10_leastCome_42 (by decide) ?_
      refine g_ist4_2 dX10_leastCome_46 (by decide) rfl ?_
      first | refine g_incn4_3 dX10_leastCome_47 ki_1 (by decide) rfl ?_ | refine g_incg4_3 (nI 1) dX10_leastCome_47 ki_1 (by decide) rfl ?_
      refine g_goto 4 dX10_leastCome_50 (by decide) ?_
      rw [← hv_p (p := q.1.getD i 0) (by omega)]
      have := ih (by omega)
      rw [lmP, if_pos (Or.inl c13)] at this
      exact this
    · rw [hv_lt h8] at c13
      have hbest : lmP S k q.1 i < S 0 0 0 := by
        rcases lmP_mem (S := S) (k := k) (l := q.1) (fun p hp => by have := hb p hp; omega) hi with ⟨_, e⟩ | ⟨_, e⟩
        · omega
        · exact hb _ e
      have hl1 := load_le hM.wf hk4 hp
      have hl2 := load_le hM.wf hk4 hbest
      rw [hv_p (p := lmP S k q.1 i) (by omega)]
      refine g_aload_n dX10_leastCome_16 rfl ?_
      refine g_aload_n dX10_leastCome_17 rfl ?_
      refine g_getr (j := 6) dX10_leastCome_18 gc10 rfl (by decide) rfl (by decide) fl_M_25 ?_
      refine g_iload_n dX10_leastCome_21 rfl ?_
      refine g_iald_n dX10_leastCome_22 (by first | rfl | assumption) (by first | decide | assumption) (by omega) (by omega) ?_
      try simp (disch := omega) only [q1, q3]
      refine g_iload_n dX10_leastCome_23 rfl ?_
      refine g_call2 dX10_leastCome_24 clM_loadOf ml_M_132 gc10 rfl rfl (by decide) (Nat.le_of_ble_eq_true rfl) ?_
      refine SM_loadOf hM hp hk4 ?_
      refine g_aload_n dX10_leastCome_27 rfl ?_
      refine g_iload_n dX10_leastCome_28 rfl ?_
      refine g_iload_n dX10_leastCome_29 rfl ?_
      refine g_call2 dX10_leastCome_30 clM_loadOf ml_M_132 gc10 rfl rfl (by decide) (Nat.le_of_ble_eq_true rfl) ?_
      refine SM_loadOf hM hbest hk4 ?_
      refine g_icmp_ge_n 45 dX10_leastCome_33 (by decide) (by omega) (by omega) (fun c33 => ?_) (fun c33 => ?_)
      · refine g_iload_n dX10_leastCome_45 rfl ?_
        refine g_ist4_2 dX10_leastCome_46 (by decide) rfl ?_
        first | refine g_incn4_3 dX10_leastCome_47 ki_1 (by decide) rfl ?_ | refine g_incg4_3 (nI 1) dX10_leastCome_47 ki_1 (by decide) rfl ?_
        refine g_goto 4 dX10_leastCome_50 (by decide) ?_
        have := ih (by omega)
        rw [lmP, if_neg (by omega), hv_p (p := lmP S k q.1 i) (by omega)] at this
        exact this
      · refine g_aload_n dX10_leastCome_36 rfl ?_
        refine g_getr (j := 6) dX10_leastCome_37 gc10 rfl (by decide) rfl (by decide) fl_M_25 ?_
        refine g_iload_n dX10_leastCome_40 rfl ?_
        refine g_iald_n dX10_leastCome_41 (by first | rfl | assumption) (by first | decide | assumption) (by omega) (by omega) ?_
        try simp (disch := omega) only [q1, q3]
        refine g_goto 46 dX10_leastCome_42 (by decide) ?_
        refine g_ist4_2 dX10_leastCome_46 (by decide) rfl ?_
        first | refine g_incn4_3 dX10_leastCome_47 ki_1 (by decide) rfl ?_ | refine g_incg4_3 (nI 1) dX10_leastCome_47 ki_1 (by decide) rfl ?_
        refine g_goto 4 dX10_leastCome_50 (by decide) ?_
        have := ih (by omega)
        rw [lmP, if_pos (Or.inr (by omega)), hv_p (p := q.1.getD i 0) (by omega)] at this
        exact this
