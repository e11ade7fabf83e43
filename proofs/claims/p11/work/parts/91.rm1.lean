/-! RINGS in the reference: follows, gainOf -/
def folB (S : BS) (r : RW) (n e : Nat) : Bool := decide (S 12 e 0 < 8 ∧ S 11 e 0 = S 11 (r 0) 0 ∧ r 0 < e ∧ (∀ j, j < n → S 12 (r j) 0 ≠ S 12 e 0) ∧ mayB S (S 12 e 0) (r (n - 1)) = true)
theorem SM_follows {d : Nat} {M : Mm} {S : BS} {Q : Po} {r : RW} {n e : Nat} (hM : MK (M 58) S) (hn : 1 ≤ n ∧ n ≤ 3) (he : e < S 1 0 0) (h67 : ∀ i, i < n → M 67 i = nI (r i)) (hrow : rowOK S r n) (h : Q M (some (.int (bI (folB S r n e))))) : Call (d + 5) mM_follows [.ref 57, .int (nI e), .int (nI n)] M Q := by
  have hw := hM.wf.nd
  have hde := hM.wf.dk (d := e) (by omega)
  have hr0 := hrow 0 (by omega)
  have hd0 := hM.wf.dk (d := r 0) (by omega)
  have hke := hM.kd he
  have hk0 := hM.kd hr0.1
  have hr67 := h67 0 (by omega)
  have hbad : folB S r n e = false → Go mM_follows (d + 5) Q 46 [some (.ref 57), some (.int (nI e)), some (.int (nI n)), none] [] M := by
    intro hf
    refine g_iconst (nI 0) dX10_follows_46 ki_0 ?_
    refine g_ireturn dX10_follows_47 rfl (by first | rfl | exact nar_bI _) ?_
    exact qb_f h hf
  unfold folB at h hbad
  refine Call_of (m := mM_follows) [some (.ref 57), some (.int (nI e)), some (.int (nI n)), none] rfl (fun G => Nat.le_of_ble_eq_true rfl) (fun G => rfl) ?_
  refine g_aload_n dX10_follows_0 rfl ?_
  refine g_iload_n dX10_follows_1 rfl ?_
  refine g_call1 dX10_follows_2 clM_holder ml_M_78 gc10 rfl rfl (by decide) (Nat.le_of_ble_eq_true rfl) ?_
  refine SM_holder hM he ?_
  refine g_if_lt 46 dX10_follows_5 (by decide) (fun c5 => ?_) (fun c5 => ?_)
  · rw [hv_lt hde.2.2] at c5
    exact hbad (decide_eq_false (fun z => by omega))
  · rw [hv_lt hde.2.2] at c5
    have h8 : S 12 e 0 < 8 := by omega
    refine g_aload_n dX10_follows_8 rfl ?_
    refine g_getr (j := 0) dX10_follows_9 gc10 rfl (by decide) rfl (by decide) fl_M_9 ?_
    refine g_sipush (nI 275) dX10_follows_12 ks_275 ?_
    refine g_iload_n dX10_follows_15 rfl ?_
    first | refine g_iadd_n dX10_follows_16 ?_ | refine g_iadd dX10_follows_16 ?_
    refine g_iald_n dX10_follows_17 (by first | rfl | assumption) (by first | decide | assumption) (by omega) (by omega) ?_
    try simp (disch := omega) only [hr67, hke, hk0]
    refine g_aload_n dX10_follows_18 rfl ?_
    refine g_getr (j := 0) dX10_follows_19 gc10 rfl (by decide) rfl (by decide) fl_M_9 ?_
    refine g_sipush (nI 275) dX10_follows_22 ks_275 ?_
    refine g_aload_n dX10_follows_25 rfl ?_
    refine g_getr (j := 14) dX10_follows_26 gc10 rfl (by decide) rfl (by decide) fl_M_38 ?_
    refine g_iconst (nI 0) dX10_follows_29 ki_0 ?_
    refine g_iald_n dX10_follows_30 (by first | rfl | assumption) (by first | decide | assumption) (by omega) (by omega) ?_
    try simp (disch := omega) only [hr67, hke, hk0]
    first | refine g_iadd_n dX10_follows_31 ?_ | refine g_iadd dX10_follows_31 ?_
    refine g_iald_n dX10_follows_32 (by first | rfl | assumption) (by first | decide | assumption) (by omega) (by omega) ?_
    try simp (disch := omega) only [hr67, hke, hk0]
    refine g_icmp_ne_n 46 dX10_follows_33 (by decide) (by omega) (by omega) (fun c33 => ?_) (fun c33 => ?_)
    · exact hbad (decide_eq_false (fun z => c33 z.2.1))
    · refine g_iload_n dX10_follows_36 rfl ?_
      refine g_aload_n dX10_follows_37 rfl ?_
      refine g_getr (j := 14) dX10_follows_38 gc10 rfl (by decide) rfl (by decide) fl_M_38 ?_
      refine g_iconst (nI 0) dX10_follows_41 ki_0 ?_
      refine g_iald_n dX10_follows_42 (by first | rfl | assumption) (by first | decide | assumption) (by omega) (by omega) ?_
      try simp (disch := omega) only [hr67, hke, hk0]
      refine g_icmp_gt_n 48 dX10_follows_43 (by decide) (by omega) (by omega) (fun c43 => ?_) (fun c43 => ?_)
      · skip
        refine g_iconst (nI 0) dX10_follows_48 ki_0 ?_
        refine g_ist4_3 dX10_follows_49 (by decide) rfl ?_
        refine loop_up (P := fun i => (∀ j, j < i → S 12 (r j) 0 ≠ S 12 e 0) → Go mM_follows (d + 5) Q 50 [some (.ref 57), some (.int (nI e)), some (.int (nI n)), some (.int (nI i))] [] M) n ?_ 0 (Nat.zero_le _) (fun j hj => absurd hj (by omega))
        intro i hi ih hno
        refine g_iload_n dX10_follows_50 rfl ?_
        refine g_iload_n dX10_follows_51 rfl ?_
        refine g_icmp_ge_n 81 dX10_follows_52 (by decide) (by omega) (by omega) (fun c52 => ?_) (fun c52 => ?_)
        · have hl67 := h67 (n - 1) (by omega)
          have hln := hrow (n - 1) (by omega)
          refine g_aload_n dX10_follows_81 rfl ?_
          refine g_aload_n dX10_follows_82 rfl ?_
          refine g_iload_n dX10_follows_83 rfl ?_
          refine g_call1 dX10_follows_84 clM_holder ml_M_78 gc10 rfl rfl (by decide) (Nat.le_of_ble_eq_true rfl) ?_
          refine SM_holder hM he ?_
          rw [hv_p (p := S 12 e 0) h8]
          refine g_aload_n dX10_follows_87 rfl ?_
          refine g_getr (j := 14) dX10_follows_88 gc10 rfl (by decide) rfl (by decide) fl_M_38 ?_
          refine g_iload_n dX10_follows_91 rfl ?_
          refine g_iconst (nI 1) dX10_follows_92 ki_1 ?_
          first | refine g_isub_n dX10_follows_93 (by omega) ?_ | refine g_isub dX10_follows_93 ?_
          refine g_iald_n dX10_follows_94 (by first | rfl | assumption) (by first | decide | assumption) (by omega) (by omega) ?_
          try simp (disch := omega) only [hl67]
          refine g_call2 dX10_follows_95 clM_mayHold ml_M_113 gc10 rfl rfl (by decide) (Nat.le_of_ble_eq_true rfl) ?_
          refine SM_mayHold hM (by omega) hln.1 ?_
          obtain rfl : i = n := by omega
          by_cases hmy : mayB S (S 12 e 0) (r (i - 1)) = true
          · rw [hmy]
            refine g_ireturn dX10_follows_98 rfl (by first | rfl | exact nar_bI _) ?_
            exact qb_t h (decide_eq_true ⟨h8, c33, c43, hno, hmy⟩)
          · rw [Bool.eq_false_iff.mpr hmy]
            refine g_ireturn dX10_follows_98 rfl (by first | rfl | exact nar_bI _) ?_
            exact qb_f h (decide_eq_false (fun z => hmy z.2.2.2.2))
        · have hi67 := h67 i (by omega)
          have hri := hrow i (by omega)
          refine g_aload_n dX10_follows_55 rfl ?_
          refine g_aload_n dX10_follows_56 rfl ?_
          refine g_getr (j := 14) dX10_follows_57 gc10 rfl (by decide) rfl (by decide) fl_M_38 ?_
          refine g_iload_n dX10_follows_60 rfl ?_
          refine g_iald_n dX10_follows_61 (by first | rfl | assumption) (by first | decide | assumption) (by omega) (by omega) ?_
          try simp (disch := omega) only [hi67]
          refine g_call1 dX10_follows_62 clM_holder ml_M_78 gc10 rfl rfl (by decide) (Nat.le_of_ble_eq_true rfl) ?_
          refine SM_holder hM hri.1 ?_
          rw [hv_p (p := S 12 (r i) 0) hri.2.1]
          refine g_aload_n dX10_follows_65 rfl ?_
          refine g_iload_n dX10_follows_66 rfl ?_
          refine g_call1 dX10_follows_67 clM_holder ml_M_78 gc10 rfl rfl (by decide) (Nat.le_of_ble_eq_true rfl) ?_
          refine SM_holder hM he ?_
          rw [hv_p (p := S 12 e 0) h8]
          refine g_icmp_ne_n 75 dX10_follows_70 (by decide) (by omega) (by omega) (fun c70 => ?_) (fun c70 => ?_)
          · first | refine g_incn4_3 dX10_follows_75 ki_1 (by decide) rfl ?_ | refine g_incg4_3 (nI 1) dX10_follows_75 ki_1 (by decide) rfl ?_
            refine g_goto 50 dX10_follows_78 (by decide) ?_
            refine ih (by omega) (fun j hj => ?_)
            by_cases e1 : j = i
            · rw [e1]; exact c70
            · exact hno j (by omega)
          · refine g_iconst (nI 0) dX10_follows_73 ki_0 ?_
            refine g_ireturn dX10_follows_74 rfl (by first | rfl | exact nar_bI _) ?_
            exact qb_f h (decide_eq_false (fun z => z.2.2.2.1 i (by omega) c70))
      · exact hbad (decide_eq_false (fun z => c43 z.2.2.1))
theorem SM_gainOf {d : Nat} {M : Mm} {S : BS} {Q : Po} {r : RW} {n : Nat} (hM : MK (M 58) S) (hH : HM S) (hn : 2 ≤ n ∧ n ≤ 4) (h67 : ∀ i, i < n → M 67 i = nI (r i)) (hrow : rowOK S r n) (h : ∀ w : Int32, w.toInt = gnR S r n → -100 ≤ gnR S r n → gnR S r n ≤ 100 → Q M (some (.int w))) : Call (d + 2) mM_gainOf [.ref 57, .int (nI n)] M Q := by
  have hw := hM.wf.nd
  have hrn := hrow (n - 1) (by omega)
  have hr0 := hrow 0 (by omega)
  have hlb := dlv_le hM.wf (q := S 12 (r 0) 0) (d := r (n - 1)) (by omega)
  refine Call_of (m := mM_gainOf) [some (.ref 57), some (.int (nI n)), none, none, none] rfl (fun G => Nat.le_of_ble_eq_true rfl) (fun G => rfl) ?_
  refine g_iconst (nI 0) dX10_gainOf_0 ki_0 ?_
  refine g_ist5_2 dX10_gainOf_1 (by decide) rfl ?_
  refine g_iconst (nI 0) dX10_gainOf_2 ki_0 ?_
  refine g_ist5_3 dX10_gainOf_3 (by decide) rfl ?_
  refine loop_up (P := fun i => ∀ u : Int32, u.toInt = (if i = 0 then 0 else pgR S r i - lstR S r n) → -(20 * (i : Int)) ≤ (if i = 0 then 0 else pgR S r i - lstR S r n) → (if i = 0 then 0 else pgR S r i - lstR S r n) ≤ 20 * (i : Int) → Go mM_gainOf (d + 2) Q 4 [some (.ref 57), some (.int (nI n)), some (.int u), some (.int (nI i)), none] [] M) n ?_ 0 (Nat.zero_le _) (nI 0) (by rw [if_pos rfl]; decide) (by simp) (by simp)
  intro i hi ih u hu hb1 hb2
  refine g_iload_n dX10_gainOf_4 rfl ?_
  refine g_iload_n dX10_gainOf_5 rfl ?_
  refine g_icmp_ge_n 67 dX10_gainOf_6 (by decide) (by omega) (by omega) (fun c6 => ?_) (fun c6 => ?_)
  · obtain rfl : i = n := by omega
    rw [if_neg (by omega)] at hu hb1 hb2
    refine g_iload_n dX10_gainOf_67 rfl ?_
    refine g_ireturn dX10_gainOf_68 rfl (by first | rfl | exact nar_bI _) ?_
    exact h u hu (by unfold gnR; omega) (by unfold gnR; omega)
  · have hi67 := h67 i (by omega)
    have hri := hrow i (by omega)
    have hnp := ho_np hM.wf hH hri.1 hri.2.1
    have hob := dlv_le hM.wf (q := S 12 (r i) 0) (d := r i) (by omega)
    have hdo : dlv S (S 12 (r i) 0) (r i) = S 13 ((S 12 (r i) 0)) ((r i)) := by unfold dlv; rw [if_pos hnp]
    refine g_aload_n dX10_gainOf_9 rfl ?_
    refine g_aload_n dX10_gainOf_10 rfl ?_
    refine g_getr (j := 14) dX10_gainOf_11 gc10 rfl (by decide) rfl (by decide) fl_M_38 ?_
    refine g_iload_n dX10_gainOf_14 rfl ?_
    refine g_iald_n dX10_gainOf_15 (by first | rfl | assumption) (by first | decide | assumption) (by omega) (by omega) ?_
    try simp (disch := omega) only [hi67]
    refine g_call1 dX10_gainOf_16 clM_holder ml_M_78 gc10 rfl rfl (by decide) (Nat.le_of_ble_eq_true rfl) ?_
    refine SM_holder hM hri.1 ?_
    rw [hv_p (p := S 12 (r i) 0) hri.2.1]
    refine g_ist5_4 dX10_gainOf_19 (by decide) rfl ?_
    refine g_iload_n dX10_gainOf_21 rfl ?_
    refine g_aload_n dX10_gainOf_22 rfl ?_
    refine g_iload dX10_gainOf_23 rfl ?_
    refine g_aload_n dX10_gainOf_25 rfl ?_
    refine g_getr (j := 14) dX10_gainOf_26 gc10 rfl (by decide) rfl (by decide) fl_M_38 ?_
    refine g_iload_n dX10_gainOf_29 rfl ?_
    refine g_iald_n dX10_gainOf_30 (by first | rfl | assumption) (by first | decide | assumption) (by omega) (by omega) ?_
    try simp (disch := omega) only [hi67]
    refine g_call2 dX10_gainOf_31 clM_dislikeOf ml_M_197 gc10 rfl rfl (by decide) (Nat.le_of_ble_eq_true rfl) ?_
    refine SM_dislikeOf hM hnp hri.1 ?_
    rw [← hdo]
    have hfin : ∀ c : Nat, c ≤ 9 → (if i + 1 = 0 then (0 : Int) else pgR S r (i + 1) - lstR S r n) = (if i = 0 then 0 else pgR S r i - lstR S r n) + ((dlv S (S 12 (r i) 0) (r i) : Nat) : Int) - (c : Int) → Go mM_gainOf (d + 2) Q 58 [some (.ref 57), some (.int (nI n)), some (.int u), some (.int (nI i)), some (.int (nI (S 12 (r i) 0)))] [.int (nI c), .int (nI (dlv S (S 12 (r i) 0) (r i))), .int u] M := by
      intro c hc hs
      have ht : (u + (nI (dlv S (S 12 (r i) 0) (r i)) - nI c)).toInt = (if i + 1 = 0 then (0 : Int) else pgR S r (i + 1) - lstR S r n) := by
        have z := t_add hu (t_sub (nI_toInt (n := dlv S (S 12 (r i) 0) (r i)) (by omega)) (nI_toInt (n := c) (by omega)) (by omega)) (by omega)
        rw [z, hs]
        omega
      refine g_isub dX10_gainOf_58 ?_
      refine g_iadd dX10_gainOf_59 ?_
      refine g_ist5_2 dX10_gainOf_60 (by decide) rfl ?_
      first | refine g_incn5_3 dX10_gainOf_61 ki_1 (by decide) rfl ?_ | refine g_incg5_3 (nI 1) dX10_gainOf_61 ki_1 (by decide) rfl ?_
      refine g_goto 4 dX10_gainOf_64 (by decide) ?_
      exact Go_sub [some (.ref 57), some (.int (nI n)), some (.int (u + (nI (dlv S (S 12 (r i) 0) (r i)) - nI c))), some (.int (nI (i + 1))), none] (by simp [subL]) (ih (by omega) _ ht (by rw [hs]; omega) (by rw [hs]; omega))
    refine g_aload_n dX10_gainOf_34 rfl ?_
    refine g_iload dX10_gainOf_35 rfl ?_
    refine g_aload_n dX10_gainOf_37 rfl ?_
    refine g_getr (j := 14) dX10_gainOf_38 gc10 rfl (by decide) rfl (by decide) fl_M_38 ?_
    refine g_iload_n dX10_gainOf_41 rfl ?_
    refine g_if_ne_n 51 dX10_gainOf_42 (by decide) (by omega) (fun c42 => ?_) (fun c42 => ?_)
    · have hj67 := h67 (i - 1) (by omega)
      have hrj := hrow (i - 1) (by omega)
      have hjb := dlv_le hM.wf (q := S 12 (r i) 0) (d := r (i - 1)) (by omega)
      have hdj : dlv S (S 12 (r i) 0) (r (i - 1)) = S 13 ((S 12 (r i) 0)) ((r (i - 1))) := by unfold dlv; rw [if_pos hnp]
      refine g_iload_n dX10_gainOf_51 rfl ?_
      refine g_iconst (nI 1) dX10_gainOf_52 ki_1 ?_
      first | refine g_isub_n dX10_gainOf_53 (by omega) ?_ | refine g_isub dX10_gainOf_53 ?_
      refine g_iald_n dX10_gainOf_54 (by first | rfl | assumption) (by first | decide | assumption) (by omega) (by omega) ?_
      try simp (disch := omega) only [hj67]
      refine g_call2 dX10_gainOf_55 clM_dislikeOf ml_M_197 gc10 rfl rfl (by decide) (Nat.le_of_ble_eq_true rfl) ?_
      refine SM_dislikeOf hM hnp hrj.1 ?_
      rw [← hdj]
      refine hfin _ hjb ?_
      rw [if_neg (by omega), if_neg c42, pgR]
      unfold ownR nxtR
      rw [if_neg c42]
      omega
    · have hdj : dlv S (S 12 (r i) 0) (r (n - 1)) = S 13 ((S 12 (r i) 0)) ((r (n - 1))) := by unfold dlv; rw [if_pos hnp]
      have hl67 := h67 (n - 1) (by omega)
      refine g_iload_n dX10_gainOf_45 rfl ?_
      refine g_iconst (nI 1) dX10_gainOf_46 ki_1 ?_
      first | refine g_isub_n dX10_gainOf_47 (by omega) ?_ | refine g_isub dX10_gainOf_47 ?_
      refine g_goto 54 dX10_gainOf_48 (by decide) ?_
      refine g_iald_n dX10_gainOf_54 (by first | rfl | assumption) (by first | decide | assumption) (by omega) (by omega) ?_
      try simp (disch := omega) only [hl67]
      refine g_call2 dX10_gainOf_55 clM_dislikeOf ml_M_197 gc10 rfl rfl (by decide) (Nat.le_of_ble_eq_true rfl) ?_
      refine SM_dislikeOf hM hnp hrn.1 ?_
      rw [← hdj]
      subst c42
      refine hfin _ hlb ?_
      rw [if_neg (by omega), if_pos rfl, pgR, pgR]
      unfold ownR nxtR lstR
      rw [if_pos rfl]
      omega
