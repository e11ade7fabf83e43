/-! FILLED and LESSER in the class -/
def e24 : Nat → Nat := fun _ => 24
/-- the path from an OPEN DUTY, and from one -/
def fpP (S : BS) (k d : Nat) : PS := gsP S k 8 0 (mwP S d (S 0 0 0) ([], fun _ => 24))
def lpP (S : BS) (k p : Nat) : PS := gsP S k 8 0 ([p], fun _ => 24)
def flP (S : BS) (k : Nat) : Nat → BS × Nat
  | 0 => (S, 0)
  | i + 1 => if S 11 (sd S i) 0 = k ∧ (flP S k i).1 12 (sd S i) 0 = 8 ∧ (fpP (flP S k i).1 k (sd S i)).1.length ≠ 0 then
      (shP 8 (flP S k i).1 (fpP (flP S k i).1 k (sd S i)).2 (lmP (flP S k i).1 k (fpP (flP S k i).1 k (sd S i)).1 (fpP (flP S k i).1 k (sd S i)).1.length), (flP S k i).2 + 1)
    else flP S k i
theorem flP_ho (S : BS) (k : Nat) : ∀ {i a : Nat}, a ≠ 12 → (flP S k i).1 a = S a
  | 0, a, _ => rfl
  | i + 1, a, h => by
    rw [flP]
    split
    · show shP 8 _ _ _ a = S a
      rw [shP_ho h]; exact flP_ho S k h
    · exact flP_ho S k h
theorem sd_ho {S T : BS} (h : ∀ a, a ≠ 12 → T a = S a) (i : Nat) : sd T i = sd S i := by
  simp only [sd, h 1 (by decide), h 10 (by decide)]
theorem WF.hoE {S T : BS} (h : ∀ a, a ≠ 12 → T a = S a) (hW : WF S) (h8 : ∀ d, d < 24 → T 12 d 0 ≤ 8) : WF T := by
  obtain ⟨b1, b2, b3, b4, b5, b6, b7, b8, b9, b10, b11⟩ := hW
  simp only [WF, h 0 (by decide), h 1 (by decide), h 3 (by decide), h 4 (by decide), h 5 (by decide), h 6 (by decide), h 7 (by decide), h 8 (by decide), h 9 (by decide), h 10 (by decide), h 11 (by decide), h 13 (by decide)]
  exact ⟨b1, b2, b3, b4, b5, b6, b7, b8, fun d hd => ⟨(b9 d hd).1, (b9 d hd).2.1, h8 d hd⟩, b10, b11⟩
theorem fpP_ok {S : BS} {k d : Nat} (hd : d < S 1 0 0) (hk : S 11 d 0 = k) (h8 : S 12 d 0 = 8) : TR S k True (fpP S k d) := by
  obtain ⟨h1, h2⟩ := mwP_ok hd hk (Nat.le_refl _) (TR.nil S k True) (Or.inl ⟨trivial, h8⟩)
  exact (gsP_ok h1).1
theorem lpP_ok {S : BS} {k p : Nat} (hp : p < S 0 0 0) : TR S k False (lpP S k p) ∧ exP ([p], fun _ => 24) (lpP S k p) := gsP_ok (TR.one S k hp)
theorem SH_fillKind {d : Nat} {M : Mm} {S : BS} {Q : Po} (hB : BK M S) {k : Nat} (hk : k < 4) (h : ∀ M', EqO [2, 31, 32, 33, 34] M M' → BK M' (flP S k (S 1 0 0)).1 → Q M' (some (.int (nI (flP S k (S 1 0 0)).2)))) : Call (d + 6) mH_fillKind [.ref 31, .int (nI k)] M Q := by
  have hw := hB.wf.np
  have hw2 := hB.wf.nd
  refine Call_of (m := mH_fillKind) [some (.ref 31), some (.int (nI k)), none, none, none] rfl (fun G => Nat.le_of_ble_eq_true rfl) (fun G => rfl) ?_
  refine g_iconst (nI 0) dX4_fillKind_0 ki_0 ?_
  refine g_ist5_2 dX4_fillKind_1 (by decide) rfl ?_
  refine g_iconst (nI 0) dX4_fillKind_2 ki_0 ?_
  refine g_ist5_3 dX4_fillKind_3 (by decide) rfl ?_
  refine loop_up (P := fun i => ∀ M', EqO [2, 31, 32, 33, 34] M M' → BK M' (flP S k i).1 → Go mH_fillKind (d + 6) Q 4 [some (.ref 31), some (.int (nI k)), some (.int (nI (flP S k i).2)), some (.int (nI i)), none] [] M') (S 1 0 0) ?_ 0 (Nat.zero_le _) M EqO.rf hB
  intro i hi ih M' hE hB'
  have eT : ∀ a, a ≠ 12 → (flP S k i).1 a = S a := fun a ha => flP_ho S k ha
  have e0 : (flP S k i).1 0 0 0 = S 0 0 0 := by rw [eT 0 (by decide)]
  have e1 : (flP S k i).1 1 0 0 = S 1 0 0 := by rw [eT 1 (by decide)]
  refine g_iload_n dX4_fillKind_4 rfl ?_
  refine g_aload_n dX4_fillKind_5 rfl ?_
  refine g_getr (j := 0) dX4_fillKind_6 gc4 rfl (by decide) rfl (by decide) fl_H_22 ?_
  refine g_geti (j := 1) dX4_fillKind_9 gc0 rfl (by decide) rfl (by decide) fl_H_36 ?_
  try simp (disch := omega) only [hB'.nd, e1]
  refine g_icmp_ge_n 97 dX4_fillKind_12 (by decide) (by omega) (by omega) (fun c12 => ?_) (fun c12 => ?_)
  · refine g_iload_n dX4_fillKind_97 rfl ?_
    refine g_ireturn dX4_fillKind_98 rfl (by first | rfl | exact nar_bI _) ?_
    rw [show i = S 1 0 0 by omega] at hB' ⊢
    exact h M' hE hB'
  · have hs := sd_lt (S := S) (k := i) (by omega)
    have hdk := hB'.wf.dk (d := sd S i) (by omega)
    have ek : (flP S k i).1 11 (sd S i) 0 = S 11 (sd S i) 0 := by rw [eT 11 (by decide)]
    rw [ek] at hdk
    refine g_aload_n dX4_fillKind_15 rfl ?_
    refine g_getr (j := 0) dX4_fillKind_16 gc4 rfl (by decide) rfl (by decide) fl_H_22 ?_
    refine g_iload_n dX4_fillKind_19 rfl ?_
    refine g_call1 dX4_fillKind_20 clB_dutyAt ml_H_41 gc0 rfl rfl (by decide) (Nat.le_of_ble_eq_true rfl) ?_
    refine SB_dutyAt hB' (by rw [e1]; omega) ?_
    rw [sd_ho eT]
    refine g_ist5_4 dX4_fillKind_23 (by decide) rfl ?_
    refine g_aload_n dX4_fillKind_25 rfl ?_
    refine g_getr (j := 0) dX4_fillKind_26 gc4 rfl (by decide) rfl (by decide) fl_H_22 ?_
    refine g_iload dX4_fillKind_29 rfl ?_
    refine g_call1 dX4_fillKind_31 clB_kindOf ml_H_45 gc0 rfl rfl (by decide) (Nat.le_of_ble_eq_true rfl) ?_
    refine SB_kindOf hB' (by rw [e1]; exact hs) ?_
    rw [ek]
    refine g_iload_n dX4_fillKind_34 rfl ?_
    refine g_icmp_ne_n 91 dX4_fillKind_35 (by decide) (by omega) (by omega) (fun c35 => ?_) (fun c35 => ?_)
    · first | refine g_incn5_3 dX4_fillKind_91 ki_1 (by decide) rfl ?_ | refine g_incg5_3 (nI 1) dX4_fillKind_91 ki_1 (by decide) rfl ?_
      refine g_goto 4 dX4_fillKind_94 (by decide) ?_
      refine Go_sub [some (.ref 31), some (.int (nI k)), some (.int (nI (flP S k i).2)), some (.int (nI (i + 1))), none] (by simp [subL]) ?_
      have := ih (by omega) M' hE
      rw [flP, if_neg (fun z => c35 z.1)] at this
      exact this hB'
    · refine g_aload_n dX4_fillKind_38 rfl ?_
      refine g_getr (j := 0) dX4_fillKind_39 gc4 rfl (by decide) rfl (by decide) fl_H_22 ?_
      refine g_iload dX4_fillKind_42 rfl ?_
      refine g_call1 dX4_fillKind_44 clB_holderOf ml_H_48 gc0 rfl rfl (by decide) (Nat.le_of_ble_eq_true rfl) ?_
      refine SB_holderOf hB' (by rw [e1]; exact hs) ?_
      refine g_iconst ((-1)) dX4_fillKind_47 ki_m1 ?_
      refine g_icmp_eq 54 dX4_fillKind_48 (by decide) (fun c48 => ?_) (fun c48 => ?_)
      · rw [hv_open _ hdk.2.2] at c48
        have hfp := fpP_ok (S := (flP S k i).1) (k := k) (d := sd S i) (by rw [e1]; exact hs) (by rw [ek]; exact c35) c48
        refine g_aload_n dX4_fillKind_54 rfl ?_
        refine g_call0 dX4_fillKind_55 clH_forget ml_H_51 gc4 rfl rfl (by decide) (Nat.le_of_ble_eq_true rfl) ?_
        refine SH_forget (fun M1 hE1 hq1 => ?_)
        have hB1 := hB'.eqO hE1 (by decide)
        refine g_aload_n dX4_fillKind_58 rfl ?_
        refine g_iload dX4_fillKind_59 rfl ?_
        refine g_call1 dX4_fillKind_61 clH_meetWhoMayHold ml_H_54 gc4 rfl rfl (by decide) (Nat.le_of_ble_eq_true rfl) ?_
        refine SH_meetWho hB1 hq1 (TR.nil _ k True) (by rw [e1]; exact hs) (by rw [ek]; exact c35) (Or.inl ⟨trivial, c48⟩) (fun M2 hE2 hq2 => ?_)
        have hB2 := hB1.eqO hE2 (by decide)
        obtain ⟨t1, t2⟩ := mwP_ok (S := (flP S k i).1) (d := sd S i) (by rw [e1]; exact hs) (by rw [ek]; exact c35) (Nat.le_refl _) (TR.nil _ k True) (Or.inl ⟨trivial, c48⟩)
        refine g_aload_n dX4_fillKind_64 rfl ?_
        refine g_iload_n dX4_fillKind_65 rfl ?_
        refine g_call1 dX4_fillKind_66 clH_goOn ml_H_58 gc4 rfl rfl (by decide) (Nat.le_of_ble_eq_true rfl) ?_
        refine SH_goOn hB2 hk hq2 t1 (fun M3 hE3 hq3 => ?_)
        have hB3 := hB2.eqO hE3 (by decide)
        have hq3' : PC M3 (fpP (flP S k i).1 k (sd S i)) := hq3
        have e4 := hq3'.1
        have hlen := hfp.len hB'.wf
        refine g_aload_n dX4_fillKind_69 rfl ?_
        refine g_geti (j := 4) dX4_fillKind_70 gc4 rfl (by decide) rfl (by decide) fl_H_26 ?_
        try simp (disch := omega) only [e4]
        refine g_if_ne_n 79 dX4_fillKind_73 (by decide) (by omega) (fun c73 => ?_) (fun c73 => ?_)
        · refine g_aload_n dX4_fillKind_79 rfl ?_
          refine g_aload_n dX4_fillKind_80 rfl ?_
          refine g_iload_n dX4_fillKind_81 rfl ?_
          refine g_call1 dX4_fillKind_82 clH_leastMet ml_H_61 gc4 rfl rfl (by decide) (Nat.le_of_ble_eq_true rfl) ?_
          refine SH_leastMet hB3 hk hq3' hfp.2.1 ?_
          have hlm := lmP_mem (S := (flP S k i).1) (k := k) (l := (fpP (flP S k i).1 k (sd S i)).1) (fun p hp => by have := hfp.2.1 p hp; omega) (Nat.le_refl _)
          obtain ⟨_, hmem⟩ := hlm.resolve_left (fun z => c73 z.1)
          obtain ⟨j, hj, ej⟩ := getD_of_mem hmem
          have hlt := hfp.2.1 _ hmem
          rw [hv_p (by omega)]
          refine g_call1 dX4_fillKind_85 clH_shiftTo ml_H_64 gc4 rfl rfl (by decide) (Nat.le_of_ble_eq_true rfl) ?_
          rw [← ej]
          refine SH_shiftTo hB3 hq3' hfp hj (fun M4 hE4 hB4 => ?_)
          first | refine g_incn5_2 dX4_fillKind_88 ki_1 (by decide) rfl ?_ | refine g_incg5_2 (nI 1) dX4_fillKind_88 ki_1 (by decide) rfl ?_
          first | refine g_incn5_3 dX4_fillKind_91 ki_1 (by decide) rfl ?_ | refine g_incg5_3 (nI 1) dX4_fillKind_91 ki_1 (by decide) rfl ?_
          refine g_goto 4 dX4_fillKind_94 (by decide) ?_
          refine Go_sub [some (.ref 31), some (.int (nI k)), some (.int (nI ((flP S k i).2 + 1))), some (.int (nI (i + 1))), none] (by simp [subL]) ?_
          have := ih (by omega) M4 (hE.tr ((hE1.sub (by decide)).tr ((hE2.sub (by decide)).tr ((hE3.sub (by decide)).tr (hE4.sub (by decide))))))
          rw [flP, if_pos ⟨c35, c48, c73⟩, ← ej] at this
          exact this hB4
        · refine g_goto 91 dX4_fillKind_76 (by decide) ?_
          first | refine g_incn5_3 dX4_fillKind_91 ki_1 (by decide) rfl ?_ | refine g_incg5_3 (nI 1) dX4_fillKind_91 ki_1 (by decide) rfl ?_
          refine g_goto 4 dX4_fillKind_94 (by decide) ?_
          refine Go_sub [some (.ref 31), some (.int (nI k)), some (.int (nI (flP S k i).2)), some (.int (nI (i + 1))), none] (by simp [subL]) ?_
          have := ih (by omega) M3 (hE.tr ((hE1.sub (by decide)).tr ((hE2.sub (by decide)).tr (hE3.sub (by decide)))))
          rw [flP, if_neg (fun z => z.2.2 c73)] at this
          exact this hB3
      · rw [hv_open _ hdk.2.2] at c48
        refine g_goto 91 dX4_fillKind_51 (by decide) ?_
        first | refine g_incn5_3 dX4_fillKind_91 ki_1 (by decide) rfl ?_ | refine g_incg5_3 (nI 1) dX4_fillKind_91 ki_1 (by decide) rfl ?_
        refine g_goto 4 dX4_fillKind_94 (by decide) ?_
        refine Go_sub [some (.ref 31), some (.int (nI k)), some (.int (nI (flP S k i).2)), some (.int (nI (i + 1))), none] (by simp [subL]) ?_
        have := ih (by omega) M' hE
        rw [flP, if_neg (fun z => c48 z.2.1)] at this
        exact this hB'
/-- LESSER from one: whether, and to whom -/
def ltP (S : BS) (k p : Nat) : Nat := lmP S k (lpP S k p).1 (lpP S k p).1.length
def lcP (S : BS) (k p : Nat) : Bool := decide (heldN S p k ≠ 0 ∧ loadN S (ltP S k p) k + 2 ≤ loadN S p k)
def fstN (f : Nat → Bool) : Nat → Nat
  | 0 => 0
  | n + 1 => if fstN f n < n then fstN f n else if f n = true then n else n + 1
theorem fstN_le (f : Nat → Bool) : ∀ n, fstN f n ≤ n
  | 0 => Nat.le_refl 0
  | n + 1 => by
    have := fstN_le f n
    rw [fstN]
    split
    · omega
    · split <;> omega
theorem fstN_eq {f : Nat → Bool} {i : Nat} (h : ∀ j, j < i → f j = false) : ∀ {n : Nat}, n ≤ i → fstN f n = n
  | 0, _ => rfl
  | n + 1, hn => by
    rw [fstN, fstN_eq h (n := n) (by omega), if_neg (by omega), if_neg (by rw [h n (by omega)]; decide)]
theorem fstN_hit {f : Nat → Bool} {i : Nat} (h : ∀ j, j < i → f j = false) (hi : f i = true) : ∀ {n : Nat}, i < n → fstN f n = i
  | 0, hn => by omega
  | n + 1, hn => by
    rcases Nat.lt_or_ge i n with q | q
    · rw [fstN, fstN_hit h hi (n := n) q, if_pos q]
    · have : n = i := by omega
      subst this
      rw [fstN, fstN_eq h (Nat.le_refl _), if_neg (by omega), if_pos hi]
theorem ltP_ok {S : BS} (hW : WF S) {k p : Nat} (hp : p < S 0 0 0) : ∃ i, i < (lpP S k p).1.length ∧ (lpP S k p).1.getD i 0 = ltP S k p := by
  obtain ⟨h1, h2⟩ := lpP_ok (S := S) (k := k) hp
  have hw := hW.np
  have hl : 0 < (lpP S k p).1.length := by have := h2.1; simp at this; omega
  have hlm := lmP_mem (S := S) (k := k) (l := (lpP S k p).1) (fun p hp => by have := h1.2.1 p hp; omega) (Nat.le_refl _)
  obtain ⟨_, hmem⟩ := hlm.resolve_left (fun z => by omega)
  exact getD_of_mem hmem
theorem load_le {S : BS} (hW : WF S) {k p : Nat} (hk : k < 4) (hp : p < S 0 0 0) : loadN S p k ≤ 1025 := by
  have hw := hW.np
  have hw2 := hW.nd
  have h1 := hW.ps (p := p) (k := k) (by omega) hk
  have h2 := headN_le S p k
  have h3 := heldF_le S (fun d => S 12 d 0) p k
  unfold loadN loadF
  omega
theorem SH_findLesser {d : Nat} {M : Mm} {S : BS} {Q : Po} (hB : BK M S) {k : Nat} (hk : k < 4) (hno : ∀ M', EqO [31, 32, 33, 34] M M' → (∀ j, j < S 0 0 0 → lcP S k j = false) → M' 31 5 = -5 → M' 31 6 = -5 → Q M' (some (.int (bI false))))
    (hyes : ∀ M' p, EqO [31, 32, 33, 34] M M' → p < S 0 0 0 → (∀ j, j < p → lcP S k j = false) → lcP S k p = true → M' 31 5 = nI p → M' 31 6 = nI (ltP S k p) → PC M' (lpP S k p) → Q M' (some (.int (bI true)))) : Call (d + 6) mH_findLesser [.ref 31, .int (nI k)] M Q := by
  have hw := hB.wf.np
  have hw2 := hB.wf.nd
  refine Call_of (m := mH_findLesser) [some (.ref 31), some (.int (nI k)), none, none] rfl (fun G => Nat.le_of_ble_eq_true rfl) (fun G => rfl) ?_
  refine g_iconst (nI 0) dX4_findLesser_0 ki_0 ?_
  refine g_ist4_2 dX4_findLesser_1 (by decide) rfl ?_
  refine loop_up (P := fun i => ∀ M', EqO [31, 32, 33, 34] M M' → (∀ j, j < i → lcP S k j = false) → Go mH_findLesser (d + 6) Q 2 [some (.ref 31), some (.int (nI k)), some (.int (nI i)), none] [] M') (S 0 0 0) ?_ 0 (Nat.zero_le _) M EqO.rf (fun j hj => absurd hj (by omega))
  intro i hi ih M' hE hlo
  have hB' := hB.eqO hE (by decide)
  refine g_iload_n dX4_findLesser_2 rfl ?_
  refine g_aload_n dX4_findLesser_3 rfl ?_
  refine g_getr (j := 0) dX4_findLesser_4 gc4 rfl (by decide) rfl (by decide) fl_H_22 ?_
  refine g_geti (j := 0) dX4_findLesser_7 gc0 rfl (by decide) rfl (by decide) fl_H_72 ?_
  try simp (disch := omega) only [hB'.np]
  refine g_icmp_ge_n 100 dX4_findLesser_10 (by decide) (by omega) (by omega) (fun c10 => ?_) (fun c10 => ?_)
  · refine g_aload_n dX4_findLesser_100 rfl ?_
    refine g_bipush ((-5)) dX4_findLesser_101 kb_m5 ?_
    refine g_puti (j := 5) dX4_findLesser_103 gc4 rfl (by decide) rfl (by decide) fl_H_30 rfl (tyX4_ok 5 (by decide)) (by first | rfl | exact nar_bI _) rfl ?_
    refine g_aload_n dX4_findLesser_106 rfl ?_
    refine g_bipush ((-5)) dX4_findLesser_107 kb_m5 ?_
    refine g_puti (j := 6) dX4_findLesser_109 gc4 rfl (by decide) rfl (by decide) fl_H_33 rfl (tyX4_ok 6 (by decide)) (by first | rfl | exact nar_bI _) rfl ?_
    refine g_iconst (nI 0) dX4_findLesser_112 ki_0 ?_
    refine g_ireturn dX4_findLesser_113 rfl (by first | rfl | exact nar_bI _) ?_
    rw [show i = S 0 0 0 by omega] at hlo
    exact hno _ (hE.tr ((EqO.set (by decide)).tr (EqO.set (by decide)))) hlo (by rw [mset_off (by omega), mset_at]) (by rw [mset_at])
  · have hin : i < S 0 0 0 := by omega
    have hh24 := heldF_le S (fun d => S 12 d 0) i k
    have hh24' : heldN S i k ≤ 24 := by unfold heldN; omega
    refine g_aload_n dX4_findLesser_13 rfl ?_
    refine g_getr (j := 0) dX4_findLesser_14 gc4 rfl (by decide) rfl (by decide) fl_H_22 ?_
    refine g_aload_n dX4_findLesser_17 rfl ?_
    refine g_getr (j := 0) dX4_findLesser_18 gc4 rfl (by decide) rfl (by decide) fl_H_22 ?_
    refine g_getr (j := 3) dX4_findLesser_21 gc0 rfl (by decide) rfl (by decide) fl_H_75 ?_
    refine g_iload_n dX4_findLesser_24 rfl ?_
    refine g_iload_n dX4_findLesser_25 rfl ?_
    refine g_call3 dX4_findLesser_26 clB_countHeld ml_H_78 gc0 rfl rfl (by decide) (Nat.le_of_ble_eq_true rfl) ?_
    refine SB_countHeldP hB' (by omega) hk ?_
    refine g_if_ne_n 35 dX4_findLesser_29 (by decide) (by omega) (fun c29 => ?_) (fun c29 => ?_)
    · refine g_aload_n dX4_findLesser_35 rfl ?_
      refine g_call0 dX4_findLesser_36 clH_forget ml_H_51 gc4 rfl rfl (by decide) (Nat.le_of_ble_eq_true rfl) ?_
      refine SH_forget (fun M1 hE1 hq1 => ?_)
      have hB1 := hB'.eqO hE1 (by decide)
      refine g_aload_n dX4_findLesser_39 rfl ?_
      refine g_iload_n dX4_findLesser_40 rfl ?_
      refine g_iconst ((-1)) dX4_findLesser_41 ki_m1 ?_
      refine g_call2 dX4_findLesser_42 clH_meet ml_H_82 gc4 rfl rfl (by decide) (Nat.le_of_ble_eq_true rfl) ?_
      refine SH_meet hB1 hq1 (by simp) (fun x hx => by simp at hx) (e := 24) hin rfl (fun M2 hE2 hq2 => ?_)
      have hB2 := hB1.eqO hE2 (by decide)
      have em : meetP ([], fun _ => 24) i 24 = ([i], fun _ => 24) := by
        unfold meetP
        rw [if_neg (by simp)]
        refine Prod.ext (by simp) ?_
        funext x
        dsimp only
        split <;> rfl
      rw [em] at hq2
      refine g_aload_n dX4_findLesser_45 rfl ?_
      refine g_iload_n dX4_findLesser_46 rfl ?_
      refine g_call1 dX4_findLesser_47 clH_goOn ml_H_58 gc4 rfl rfl (by decide) (Nat.le_of_ble_eq_true rfl) ?_
      refine SH_goOn hB2 hk hq2 (TR.one S k hin) (fun M3 hE3 hq3 => ?_)
      have hB3 := hB2.eqO hE3 (by decide)
      have hq3' : PC M3 (lpP S k i) := hq3
      obtain ⟨t1, t2⟩ := lpP_ok (S := S) (k := k) hin
      obtain ⟨j, hj, ej⟩ := ltP_ok hB.wf (k := k) hin
      have hlt : ltP S k i < S 0 0 0 := by rw [← ej]; exact t1.2.1 _ (getD_mem hj)
      have hl1 := load_le hB.wf hk hin
      have hl2 := load_le hB.wf hk hlt
      refine g_aload_n dX4_findLesser_50 rfl ?_
      refine g_iload_n dX4_findLesser_51 rfl ?_
      refine g_call1 dX4_findLesser_52 clH_leastMet ml_H_61 gc4 rfl rfl (by decide) (Nat.le_of_ble_eq_true rfl) ?_
      refine SH_leastMet hB3 hk hq3' t1.2.1 ?_
      rw [show lmP S k (lpP S k i).1 (lpP S k i).1.length = ltP S k i from rfl, hv_p (by omega)]
      refine g_ist4_3 dX4_findLesser_55 (by decide) rfl ?_
      refine g_aload_n dX4_findLesser_56 rfl ?_
      refine g_getr (j := 0) dX4_findLesser_57 gc4 rfl (by decide) rfl (by decide) fl_H_22 ?_
      refine g_iload_n dX4_findLesser_60 rfl ?_
      refine g_iload_n dX4_findLesser_61 rfl ?_
      refine g_call2 dX4_findLesser_62 clB_loadOf ml_H_86 gc0 rfl rfl (by decide) (Nat.le_of_ble_eq_true rfl) ?_
      refine SB_loadOf hB3 hlt hk ?_
      refine g_aload_n dX4_findLesser_65 rfl ?_
      refine g_getr (j := 0) dX4_findLesser_66 gc4 rfl (by decide) rfl (by decide) fl_H_22 ?_
      refine g_iload_n dX4_findLesser_69 rfl ?_
      refine g_iload_n dX4_findLesser_70 rfl ?_
      refine g_call2 dX4_findLesser_71 clB_loadOf ml_H_86 gc0 rfl rfl (by decide) (Nat.le_of_ble_eq_true rfl) ?_
      refine SB_loadOf hB3 hin hk ?_
      have hE4 := hE.tr ((hE1.sub (by decide)).tr (hE2.tr hE3))
      refine g_iconst (nI 2) dX4_findLesser_74 ki_2 ?_
      rcases Nat.lt_or_ge (loadN S i k) 2 with z | z
      · refine g_isub dX4_findLesser_75 ?_
        have hneg : ¬ nI (loadN S (ltP S k i) k) ≤ nI (loadN S i k) - nI 2 := by
          rw [Int32.le_iff_toInt_le, nI_toInt (by omega), Int32.toInt_sub, nI_toInt (by omega), nI_toInt (by omega), Int.bmod_def]
          split <;> omega
        refine g_icmp_le 82 dX4_findLesser_76 (by decide) (fun c76 => ?_) (fun c76 => ?_)
        · exact absurd c76 hneg
        · refine g_goto 94 dX4_findLesser_79 (by decide) ?_
          first | refine g_incn4_2 dX4_findLesser_94 ki_1 (by decide) rfl ?_ | refine g_incg4_2 (nI 1) dX4_findLesser_94 ki_1 (by decide) rfl ?_
          refine g_goto 2 dX4_findLesser_97 (by decide) ?_
          refine Go_sub [some (.ref 31), some (.int (nI k)), some (.int (nI (i + 1))), none] (by simp [subL]) (ih (by omega) M3 hE4 (fun x hx => ?_))
          rcases Nat.lt_or_ge x i with y | y
          · exact hlo x y
          · rw [show x = i by omega]; exact decide_eq_false (by omega)
      · refine g_isub_n dX4_findLesser_75 (by omega) ?_
        refine g_icmp_le_n 82 dX4_findLesser_76 (by decide) (by omega) (by omega) (fun c76 => ?_) (fun c76 => ?_)
        · refine g_aload_n dX4_findLesser_82 rfl ?_
          refine g_iload_n dX4_findLesser_83 rfl ?_
          refine g_puti (j := 5) dX4_findLesser_84 gc4 rfl (by decide) rfl (by decide) fl_H_30 rfl (tyX4_ok 5 (by decide)) (by first | rfl | exact nar_bI _) rfl ?_
          refine g_aload_n dX4_findLesser_87 rfl ?_
          refine g_iload_n dX4_findLesser_88 rfl ?_
          refine g_puti (j := 6) dX4_findLesser_89 gc4 rfl (by decide) rfl (by decide) fl_H_33 rfl (tyX4_ok 6 (by decide)) (by first | rfl | exact nar_bI _) rfl ?_
          refine g_iconst (nI 1) dX4_findLesser_92 ki_1 ?_
          refine g_ireturn dX4_findLesser_93 rfl (by first | rfl | exact nar_bI _) ?_
          refine hyes _ i (hE4.tr ((EqO.set (by decide)).tr (EqO.set (by decide)))) hin hlo (decide_eq_true ⟨c29, by omega⟩) (by rw [mset_off (by omega), mset_at]) (by rw [mset_at]) (hq3'.eqO ?_ ?_ ?_ ?_)
          · rw [mset_off (by omega), mset_off (by omega)]
          · rw [mset_ne (by decide), mset_ne (by decide)]
          · rw [mset_ne (by decide), mset_ne (by decide)]
          · rw [mset_ne (by decide), mset_ne (by decide)]
        · refine g_goto 94 dX4_findLesser_79 (by decide) ?_
          first | refine g_incn4_2 dX4_findLesser_94 ki_1 (by decide) rfl ?_ | refine g_incg4_2 (nI 1) dX4_findLesser_94 ki_1 (by decide) rfl ?_
          refine g_goto 2 dX4_findLesser_97 (by decide) ?_
          refine Go_sub [some (.ref 31), some (.int (nI k)), some (.int (nI (i + 1))), none] (by simp [subL]) (ih (by omega) M3 hE4 (fun x hx => ?_))
          rcases Nat.lt_or_ge x i with y | y
          · exact hlo x y
          · rw [show x = i by omega]; exact decide_eq_false (by omega)
    · refine g_goto 94 dX4_findLesser_32 (by decide) ?_
      first | refine g_incn4_2 dX4_findLesser_94 ki_1 (by decide) rfl ?_ | refine g_incg4_2 (nI 1) dX4_findLesser_94 ki_1 (by decide) rfl ?_
      refine g_goto 2 dX4_findLesser_97 (by decide) ?_
      refine ih (by omega) M' hE (fun x hx => ?_)
      rcases Nat.lt_or_ge x i with y | y
      · exact hlo x y
      · rw [show x = i by omega]; exact decide_eq_false (fun z => z.1 c29)
