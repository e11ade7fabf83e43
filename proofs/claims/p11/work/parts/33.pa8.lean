/-! lesser, eases -/
theorem SM_isLesser {d : Nat} {M : Mm} {S : BS} {Q : Po} (hM : MK (M 58) S) (hH : HM S) {k : Nat} (hk : k < 4) (hno : ∀ M', EqQ [63, 64, 65] M M' → (∀ j, j < S 0 0 0 → lcP S k j = false) → Q M' (some (.int (bI false))))
    (hyes : ∀ M' p, EqQ [63, 64, 65] M M' → p < S 0 0 0 → (∀ j, j < p → lcP S k j = false) → lcP S k p = true → M' 57 12 = nI p → M' 57 13 = nI (ltP S k p) → PN M' (lpP S k p) → Q M' (some (.int (bI true)))) : Call (d + 7) mM_isLesser [.ref 57, .int (nI k)] M Q := by
  have hw := hM.wf.np
  have hw2 := hM.wf.nd
  refine Call_of (m := mM_isLesser) [some (.ref 57), some (.int (nI k)), none, none] rfl (fun G => Nat.le_of_ble_eq_true rfl) (fun G => rfl) ?_
  refine g_iconst (nI 0) dX10_isLesser_0 ki_0 ?_
  refine g_ist4_2 dX10_isLesser_1 (by decide) rfl ?_
  refine loop_up (P := fun i => ∀ M', EqQ [63, 64, 65] M M' → (∀ j, j < i → lcP S k j = false) → Go mM_isLesser (d + 7) Q 2 [some (.ref 57), some (.int (nI k)), some (.int (nI i)), none] [] M') (S 0 0 0) ?_ 0 (Nat.zero_le _) M EqQ.rf (fun j hj => absurd hj (by omega))
  intro i hi ih M' hE hlo
  have hM' := hM.eqQ hE (by decide)
  refine g_iload_n dX10_isLesser_2 rfl ?_
  refine g_aload_n dX10_isLesser_3 rfl ?_
  refine g_getr (j := 0) dX10_isLesser_4 gc10 rfl (by decide) rfl (by decide) fl_M_9 ?_
  refine g_iconst (nI 0) dX10_isLesser_7 ki_0 ?_
  refine g_iald_n dX10_isLesser_8 (by first | rfl | assumption) (by first | decide | assumption) (by omega) (by omega) ?_
  try simp (disch := omega) only [hM'.np]
  refine g_icmp_ge_n 85 dX10_isLesser_9 (by decide) (by omega) (by omega) (fun c9 => ?_) (fun c9 => ?_)
  · refine g_iconst (nI 0) dX10_isLesser_85 ki_0 ?_
    refine g_ireturn dX10_isLesser_86 rfl (by first | rfl | exact nar_bI _) ?_
    rw [show i = S 0 0 0 by omega] at hlo
    exact hno _ hE hlo
  · have hin : i < S 0 0 0 := by omega
    have hh24 := heldF_le S (fun d => S 12 d 0) i k
    have hh24' : heldN S i k ≤ 24 := by unfold heldN; omega
    refine g_aload_n dX10_isLesser_12 rfl ?_
    refine g_iload_n dX10_isLesser_13 rfl ?_
    refine g_call1 dX10_isLesser_14 clM_isHere ml_M_100 gc10 rfl rfl (by decide) (Nat.le_of_ble_eq_true rfl) ?_
    refine SM_isHere hM' (by omega) ?_
    refine g_if_eq_b 79 dX10_isLesser_17 (by decide) (fun c17 => ?_) (fun c17 => ?_)
    · have h0 := held_here (k := k) hH (by omega) c17
      first | refine g_incn4_2 dX10_isLesser_79 ki_1 (by decide) rfl ?_ | refine g_incg4_2 (nI 1) dX10_isLesser_79 ki_1 (by decide) rfl ?_
      refine g_goto 2 dX10_isLesser_82 (by decide) ?_
      refine ih (by omega) M' hE (fun x hx => ?_)
      rcases Nat.lt_or_ge x i with y | y
      · exact hlo x y
      · rw [show x = i by omega]; exact decide_eq_false (fun z => z.1 h0)
    · skip
      refine g_aload_n dX10_isLesser_20 rfl ?_
      refine g_iload_n dX10_isLesser_21 rfl ?_
      refine g_iload_n dX10_isLesser_22 rfl ?_
      refine g_call2 dX10_isLesser_23 clM_heldIn ml_M_86 gc10 rfl rfl (by decide) (Nat.le_of_ble_eq_true rfl) ?_
      refine SM_heldInP hM' (by omega) hk ?_
      refine g_if_le_n 79 dX10_isLesser_26 (by decide) (by omega) (fun c26 => ?_) (fun c26 => ?_)
      · first | refine g_incn4_2 dX10_isLesser_79 ki_1 (by decide) rfl ?_ | refine g_incg4_2 (nI 1) dX10_isLesser_79 ki_1 (by decide) rfl ?_
        refine g_goto 2 dX10_isLesser_82 (by decide) ?_
        refine ih (by omega) M' hE (fun x hx => ?_)
        rcases Nat.lt_or_ge x i with y | y
        · exact hlo x y
        · rw [show x = i by omega]; exact decide_eq_false (fun z => z.1 c26)
      · refine g_aload_n dX10_isLesser_29 rfl ?_
        refine g_call0 dX10_isLesser_30 clM_begins ml_M_165 gc10 rfl rfl (by decide) (Nat.le_of_ble_eq_true rfl) ?_
        refine SM_begins (fun M1 hE1 hq1 => ?_)
        have hM1 := hM'.eqQ hE1 (by decide)
        refine g_aload_n dX10_isLesser_33 rfl ?_
        refine g_iload_n dX10_isLesser_34 rfl ?_
        refine g_iconst ((-1)) dX10_isLesser_35 ki_m1 ?_
        refine g_call2 dX10_isLesser_36 clM_comesBy ml_M_159 gc10 rfl rfl (by decide) (Nat.le_of_ble_eq_true rfl) ?_
        refine SM_comesBy hM1 hq1 (by simp) (fun x hx => by simp at hx) (e := 24) hin rfl (fun M2 hE2 hq2 => ?_)
        have hM2 := hM1.eqQ hE2 (by decide)
        have em : meetP ([], fun _ => 24) i 24 = ([i], fun _ => 24) := by
          unfold meetP
          rw [if_neg (by simp)]
          refine Prod.ext (by simp) ?_
          funext x
          dsimp only
          split <;> rfl
        rw [em] at hq2
        refine g_aload_n dX10_isLesser_39 rfl ?_
        refine g_iload_n dX10_isLesser_40 rfl ?_
        refine g_call1 dX10_isLesser_41 clM_goesOn ml_M_168 gc10 rfl rfl (by decide) (Nat.le_of_ble_eq_true rfl) ?_
        refine SM_goesOn hM2 hk hq2 (TR.one S k hin) (fun M3 hE3 hq3 => ?_)
        have hM3 := hM2.eqQ hE3 (by decide)
        have hq3' : PN M3 (lpP S k i) := hq3
        obtain ⟨t1, t2⟩ := lpP_ok (S := S) (k := k) hin
        obtain ⟨j, hj, ej⟩ := ltP_ok hM.wf (k := k) hin
        have hlt : ltP S k i < S 0 0 0 := by rw [← ej]; exact t1.2.1 _ (getD_mem hj)
        have hl1 := load_le hM.wf hk hin
        have hl2 := load_le hM.wf hk hlt
        refine g_aload_n dX10_isLesser_44 rfl ?_
        refine g_iload_n dX10_isLesser_45 rfl ?_
        refine g_call1 dX10_isLesser_46 clM_leastCome ml_M_171 gc10 rfl rfl (by decide) (Nat.le_of_ble_eq_true rfl) ?_
        refine SM_leastCome hM3 hk hq3' t1.2.1 ?_
        rw [show lmP S k (lpP S k i).1 (lpP S k i).1.length = ltP S k i from rfl, hv_p (by omega)]
        refine g_ist4_3 dX10_isLesser_49 (by decide) rfl ?_
        refine g_aload_n dX10_isLesser_50 rfl ?_
        refine g_iload_n dX10_isLesser_51 rfl ?_
        refine g_iload_n dX10_isLesser_52 rfl ?_
        refine g_call2 dX10_isLesser_53 clM_loadOf ml_M_132 gc10 rfl rfl (by decide) (Nat.le_of_ble_eq_true rfl) ?_
        refine SM_loadOf hM3 hlt hk ?_
        refine g_aload_n dX10_isLesser_56 rfl ?_
        refine g_iload_n dX10_isLesser_57 rfl ?_
        refine g_iload_n dX10_isLesser_58 rfl ?_
        refine g_call2 dX10_isLesser_59 clM_loadOf ml_M_132 gc10 rfl rfl (by decide) (Nat.le_of_ble_eq_true rfl) ?_
        refine SM_loadOf hM3 hin hk ?_
        have hE4 := hE.tr ((hE1.sub (by decide)).tr (hE2.tr hE3))
        refine g_iconst (nI 2) dX10_isLesser_62 ki_2 ?_
        rcases Nat.lt_or_ge (loadN S i k) 2 with z | z
        · refine g_isub dX10_isLesser_63 ?_
          have hneg : ¬ nI (loadN S (ltP S k i) k) ≤ nI (loadN S i k) - nI 2 := by
            rw [Int32.le_iff_toInt_le, nI_toInt (by omega), Int32.toInt_sub, nI_toInt (by omega), nI_toInt (by omega), Int.bmod_def]
            split <;> omega
          refine g_icmp_gt 79 dX10_isLesser_64 (by decide) (fun c64 => ?_) (fun c64 => ?_)
          · first | refine g_incn4_2 dX10_isLesser_79 ki_1 (by decide) rfl ?_ | refine g_incg4_2 (nI 1) dX10_isLesser_79 ki_1 (by decide) rfl ?_
            refine g_goto 2 dX10_isLesser_82 (by decide) ?_
            refine Go_sub [some (.ref 57), some (.int (nI k)), some (.int (nI (i + 1))), none] (by simp [subL]) (ih (by omega) M3 hE4 (fun x hx => ?_))
            rcases Nat.lt_or_ge x i with y | y
            · exact hlo x y
            · rw [show x = i by omega]; exact decide_eq_false (by omega)
          · exact absurd (Int32.not_lt.mp c64) hneg
        · refine g_isub_n dX10_isLesser_63 (by omega) ?_
          refine g_icmp_gt_n 79 dX10_isLesser_64 (by decide) (by omega) (by omega) (fun c64 => ?_) (fun c64 => ?_)
          · first | refine g_incn4_2 dX10_isLesser_79 ki_1 (by decide) rfl ?_ | refine g_incg4_2 (nI 1) dX10_isLesser_79 ki_1 (by decide) rfl ?_
            refine g_goto 2 dX10_isLesser_82 (by decide) ?_
            refine Go_sub [some (.ref 57), some (.int (nI k)), some (.int (nI (i + 1))), none] (by simp [subL]) (ih (by omega) M3 hE4 (fun x hx => ?_))
            rcases Nat.lt_or_ge x i with y | y
            · exact hlo x y
            · rw [show x = i by omega]; exact decide_eq_false (by omega)
          · refine g_aload_n dX10_isLesser_67 rfl ?_
            refine g_iload_n dX10_isLesser_68 rfl ?_
            refine g_puti (j := 12) dX10_isLesser_69 gc10 rfl (by decide) rfl (by decide) fl_M_186 rfl (tyX10_ok 12 (by decide)) (by first | rfl | exact nar_bI _) rfl ?_
            refine g_aload_n dX10_isLesser_72 rfl ?_
            refine g_iload_n dX10_isLesser_73 rfl ?_
            refine g_puti (j := 13) dX10_isLesser_74 gc10 rfl (by decide) rfl (by decide) fl_M_189 rfl (tyX10_ok 13 (by decide)) (by first | rfl | exact nar_bI _) rfl ?_
            refine g_iconst (nI 1) dX10_isLesser_77 ki_1 ?_
            refine g_ireturn dX10_isLesser_78 rfl (by first | rfl | exact nar_bI _) ?_
            refine hyes _ i (hE4.tr ((EqQ.set57 (by decide)).tr (EqQ.set57 (by decide)))) hin hlo (decide_eq_true ⟨c26, by omega⟩) (by rw [mset_off (by omega), mset_at]) (by rw [mset_at]) (hq3'.eqO ?_ ?_ ?_ ?_)
            · rw [mset_off (by omega), mset_off (by omega)]
            · rw [mset_ne (by decide), mset_ne (by decide)]
            · rw [mset_ne (by decide), mset_ne (by decide)]
            · rw [mset_ne (by decide), mset_ne (by decide)]
def f_lesser (k w : Int32) (S : BS) : Int32 × BS := (if inR k 4 = true ∧ inR w 3 = true then
    (if w = 0 then bI (decide (lsP S (v2n k) < S 0 0 0)) else if lsP S (v2n k) < S 0 0 0 then (if w = nI 1 then nI (lsP S (v2n k)) else nI (ltP S (v2n k) (lsP S (v2n k)))) else -5) else -1, S)
theorem ls_none {S : BS} {k : Nat} (h : ∀ j, j < S 0 0 0 → lcP S k j = false) : lsP S k = S 0 0 0 := fstN_eq h (Nat.le_refl _)
theorem ls_one {S : BS} {k p : Nat} (hp : p < S 0 0 0) (h : ∀ j, j < p → lcP S k j = false) (h1 : lcP S k p = true) : lsP S k = p := fstN_hit h h1 hp
theorem SH_giver {d : Nat} {M : Mm} {Q : Po} (h : Q M (some (.int (M 31 5)))) : Call (d + 1) mH_giver [.ref 31] M Q := by
  refine Call_of (m := mH_giver) [some (.ref 31)] rfl (fun G => Nat.le_of_ble_eq_true rfl) (fun G => rfl) ?_
  refine g_aload_n dX4_giver_0 rfl ?_
  refine g_geti (j := 5) dX4_giver_1 gc4 rfl (by decide) rfl (by decide) fl_H_30 ?_
  refine g_ireturn dX4_giver_4 rfl (by first | rfl | exact nar_bI _) ?_
  exact h
theorem SH_taker {d : Nat} {M : Mm} {Q : Po} (h : Q M (some (.int (M 31 6)))) : Call (d + 1) mH_taker [.ref 31] M Q := by
  refine Call_of (m := mH_taker) [some (.ref 31)] rfl (fun G => Nat.le_of_ble_eq_true rfl) (fun G => rfl) ?_
  refine g_aload_n dX4_taker_0 rfl ?_
  refine g_geti (j := 6) dX4_taker_1 gc4 rfl (by decide) rfl (by decide) fl_H_33 ?_
  refine g_ireturn dX4_taker_4 rfl (by first | rfl | exact nar_bI _) ?_
  exact h
theorem SF_lesser (k w : Int32) (M : Mm) (S : BS) (Q : Po) (hB : BK M S) (hH : HM S) (h : ∀ M', FrC M M' → BK M' (f_lesser k w S).2 → Q M' (some (.int (f_lesser k w S).1))) : Call 60 mF_lesser [.ref 0, .int k, .int w] M Q := by
  unfold f_lesser at h
  dsimp only at h
  have hw := hB.wf.np
  refine Call_of (m := mF_lesser) [some (.ref 0), some (.int k), some (.int w), none] rfl (fun G => Nat.le_of_ble_eq_true rfl) (fun G => rfl) ?_
  refine g_iload_n dX9_lesser_0 rfl ?_
  refine g_calls1 dX9_lesser_1 clF_isKind ml_F_106 (Nat.le_of_ble_eq_true rfl) ?_
  refine SF_isKind k ?_
  refine g_if_eq_b 16 dX9_lesser_4 (by decide) (fun c4 => ?_) (fun c4 => ?_)
  · rw [if_neg (by rw [c4]; simp)] at h
    refine g_iconst ((-1)) dX9_lesser_16 ki_m1 ?_
    refine g_ireturn dX9_lesser_17 rfl (by first | rfl | exact nar_bI _) ?_
    exact h M FrC.rf hB
  · obtain ⟨e, he, rfl⟩ := inR_true c4
    rw [v2n_nI (show e < 2 ^ 31 by omega)] at h
    refine g_iload_n dX9_lesser_7 rfl ?_
    refine g_if_lt 16 dX9_lesser_8 (by decide) (fun c8 => ?_) (fun c8 => ?_)
    · rw [if_neg (by rw [inR_f1 c8]; simp)] at h
      refine g_iconst ((-1)) dX9_lesser_16 ki_m1 ?_
      refine g_ireturn dX9_lesser_17 rfl (by first | rfl | exact nar_bI _) ?_
      exact h M FrC.rf hB
    · refine g_iload_n dX9_lesser_11 rfl ?_
      refine g_iconst (nI 2) dX9_lesser_12 ki_2 ?_
      refine g_icmp_le 18 dX9_lesser_13 (by decide) (fun c13 => ?_) (fun c13 => ?_)
      · have hin : inR w 3 = true := inR_le (by omega) c8 c13
        rw [if_pos ⟨c4, hin⟩] at h
        refine g_aload_n dX9_lesser_18 rfl ?_
        refine g_getr (j := 4) dX9_lesser_19 gc9 rfl (by decide) rfl (by decide) fl_F_38 ?_
        refine g_iload_n dX9_lesser_22 rfl ?_
        refine g_call1 dX9_lesser_23 clH_findLesser ml_F_219 gc4 rfl rfl (by decide) (Nat.le_of_ble_eq_true rfl) ?_
        refine SH_findLesser hB he (fun M' hE hno _ _ => ?_) (fun M' p hE hp hlo hone e5 e6 hq => ?_)
        · have e1 : lsP S e = S 0 0 0 := ls_none hno
          rw [e1] at h
          have hB' := hB.eqO hE (by decide)
          refine g_ist4_3 dX9_lesser_26 (by decide) rfl ?_
          refine g_iload_n dX9_lesser_27 rfl ?_
          refine g_if_ne 41 dX9_lesser_28 (by decide) (fun c28 => ?_) (fun c28 => ?_)
          · rw [if_neg c28, if_neg (by omega)] at h
            refine g_iload_n dX9_lesser_41 rfl ?_
            refine g_if_ne_ff 48 dX9_lesser_42 (by decide) ?_
            refine g_bipush ((-5)) dX9_lesser_45 kb_m5 ?_
            refine g_ireturn dX9_lesser_47 rfl (by first | rfl | exact nar_bI _) ?_
            exact h M' (FrC.of hE (by decide)) hB'
          · rw [if_pos c28, decide_eq_false (by omega)] at h
            refine g_iload_n dX9_lesser_31 rfl ?_
            refine g_if_eq_ff 39 dX9_lesser_32 (by decide) ?_
            refine g_iconst (nI 0) dX9_lesser_39 ki_0 ?_
            refine g_ireturn dX9_lesser_40 rfl (by first | rfl | exact nar_bI _) ?_
            exact h M' (FrC.of hE (by decide)) hB'
        · have e1 : lsP S e = p := ls_one hp hlo hone
          rw [e1] at h
          have hB' := hB.eqO hE (by decide)
          have h2 := h M' (FrC.of hE (by decide)) hB'
          clear h
          refine g_ist4_3 dX9_lesser_26 (by decide) rfl ?_
          refine g_iload_n dX9_lesser_27 rfl ?_
          refine g_if_ne 41 dX9_lesser_28 (by decide) (fun c28 => ?_) (fun c28 => ?_)
          · rw [if_neg c28, if_pos hp] at h2
            refine g_iload_n dX9_lesser_41 rfl ?_
            refine g_if_ne_tt 48 dX9_lesser_42 (by decide) ?_
            refine g_iload_n dX9_lesser_48 rfl ?_
            refine g_iconst (nI 1) dX9_lesser_49 ki_1 ?_
            refine g_icmp_ne 63 dX9_lesser_50 (by decide) (fun c50 => ?_) (fun c50 => ?_)
            · rw [if_neg c50] at h2
              refine g_aload_n dX9_lesser_63 rfl ?_
              refine g_getr (j := 4) dX9_lesser_64 gc9 rfl (by decide) rfl (by decide) fl_F_38 ?_
              refine g_call0 dX9_lesser_67 clH_taker ml_F_225 gc4 rfl rfl (by decide) (Nat.le_of_ble_eq_true rfl) ?_
              refine SH_taker ?_
              refine g_ireturn dX9_lesser_70 rfl (by first | rfl | exact nar_bI _) ?_
              rw [e6]
              exact h2
            · rw [if_pos c50] at h2
              refine g_aload_n dX9_lesser_53 rfl ?_
              refine g_getr (j := 4) dX9_lesser_54 gc9 rfl (by decide) rfl (by decide) fl_F_38 ?_
              refine g_call0 dX9_lesser_57 clH_giver ml_F_222 gc4 rfl rfl (by decide) (Nat.le_of_ble_eq_true rfl) ?_
              refine SH_giver ?_
              refine g_goto 70 dX9_lesser_60 (by decide) ?_
              refine g_ireturn dX9_lesser_70 rfl (by first | rfl | exact nar_bI _) ?_
              rw [e5]
              exact h2
          · rw [if_pos c28, decide_eq_true hp] at h2
            refine g_iload_n dX9_lesser_31 rfl ?_
            refine g_if_eq_tt 39 dX9_lesser_32 (by decide) ?_
            refine g_iconst (nI 1) dX9_lesser_35 ki_1 ?_
            refine g_goto 40 dX9_lesser_36 (by decide) ?_
            refine g_ireturn dX9_lesser_40 rfl (by first | rfl | exact nar_bI _) ?_
            exact h2
      · rw [if_neg (by rw [inR_nle (by omega) c13]; simp)] at h
        refine g_iconst ((-1)) dX9_lesser_16 ki_m1 ?_
        refine g_ireturn dX9_lesser_17 rfl (by first | rfl | exact nar_bI _) ?_
        exact h M FrC.rf hB
theorem SM_lesser (k w : Int32) (M : Mm) (S : BS) (Q : Po) (hM : MK (M 58) S) (hC : MC M) (hH : HM S) (h : ∀ M', FrM M M' → MK (M' 58) (f_lesser k w S).2 → Q M' (some (.int (f_lesser k w S).1))) : Call 60 mM_lesser [.ref 57, .int k, .int w] M Q := by
  unfold f_lesser at h
  dsimp only at h
  have hw := hM.wf.np
  refine Call_of (m := mM_lesser) [some (.ref 57), some (.int k), some (.int w), none] rfl (fun G => Nat.le_of_ble_eq_true rfl) (fun G => rfl) ?_
  refine g_iload_n dX10_lesser_0 rfl ?_
  refine g_calls1 dX10_lesser_1 clM_isKind ml_M_117 (Nat.le_of_ble_eq_true rfl) ?_
  refine SM_isKind k ?_
  refine g_if_eq_b 19 dX10_lesser_4 (by decide) (fun c4 => ?_) (fun c4 => ?_)
  · rw [if_neg (by rw [c4]; simp)] at h
    refine g_iconst ((-1)) dX10_lesser_19 ki_m1 ?_
    refine g_ireturn dX10_lesser_20 rfl (by first | rfl | exact nar_bI _) ?_
    exact h M FrM.rf hM
  · obtain ⟨e, he, rfl⟩ := inR_true c4
    rw [v2n_nI (show e < 2 ^ 31 by omega)] at h
    refine g_iload_n dX10_lesser_7 rfl ?_
    refine g_i2l dX10_lesser_8 ?_
    refine g_lconst (0) dX10_lesser_9 (by decide) ?_
    refine g_ldc2w (2) dX10_lesser_10 kl_M_192 ?_
    refine g_calls3 dX10_lesser_13 clM_in ml_M_68 (Nat.le_of_ble_eq_true rfl) ?_
    refine SM_in _ _ _ ?_
    rw [inJ_L (n := 3) (by decide)]
    refine g_if_ne_b 21 dX10_lesser_16 (by decide) (fun c16 => ?_) (fun c16 => ?_)
    · rw [if_pos ⟨c4, c16⟩] at h
      refine g_aload_n dX10_lesser_21 rfl ?_
      refine g_iload_n dX10_lesser_22 rfl ?_
      refine g_call1 dX10_lesser_23 clM_isLesser ml_M_194 gc10 rfl rfl (by decide) (Nat.le_of_ble_eq_true rfl) ?_
      refine SM_isLesser hM hH he (fun M' hE hno => ?_) (fun M' p hE hp hlo hone e5 e6 hq => ?_)
      · have e1 : lsP S e = S 0 0 0 := ls_none hno
        rw [e1] at h
        have h2 := h M' (FrM.ofQ hE (by decide)) (hM.eqQ hE (by decide))
        clear h
        refine g_ist4_3 dX10_lesser_26 (by decide) rfl ?_
        refine g_iload_n dX10_lesser_27 rfl ?_
        refine g_if_ne 43 dX10_lesser_28 (by decide) (fun c28 => ?_) (fun c28 => ?_)
        · rw [if_neg c28, if_neg (by omega)] at h2
          refine g_iload_n dX10_lesser_43 rfl ?_
          refine g_if_ne_ff 52 dX10_lesser_44 (by decide) ?_
          refine g_bipush ((-5)) dX10_lesser_47 kb_m5 ?_
          refine g_goto 68 dX10_lesser_49 (by decide) ?_
          refine g_ireturn dX10_lesser_68 rfl (by first | rfl | exact nar_bI _) ?_
          exact h2
        · rw [if_pos c28, decide_eq_false (by omega)] at h2
          refine g_iload_n dX10_lesser_31 rfl ?_
          refine g_if_eq_ff 39 dX10_lesser_32 (by decide) ?_
          refine g_iconst (nI 0) dX10_lesser_39 ki_0 ?_
          refine g_goto 68 dX10_lesser_40 (by decide) ?_
          refine g_ireturn dX10_lesser_68 rfl (by first | rfl | exact nar_bI _) ?_
          exact h2
      · have e1 : lsP S e = p := ls_one hp hlo hone
        rw [e1] at h
        have h2 := h M' (FrM.ofQ hE (by decide)) (hM.eqQ hE (by decide))
        clear h
        refine g_ist4_3 dX10_lesser_26 (by decide) rfl ?_
        refine g_iload_n dX10_lesser_27 rfl ?_
        refine g_if_ne 43 dX10_lesser_28 (by decide) (fun c28 => ?_) (fun c28 => ?_)
        · rw [if_neg c28, if_pos hp] at h2
          refine g_iload_n dX10_lesser_43 rfl ?_
          refine g_if_ne_tt 52 dX10_lesser_44 (by decide) ?_
          refine g_iload_n dX10_lesser_52 rfl ?_
          refine g_iconst (nI 1) dX10_lesser_53 ki_1 ?_
          refine g_icmp_ne 64 dX10_lesser_54 (by decide) (fun c54 => ?_) (fun c54 => ?_)
          · rw [if_neg c54] at h2
            refine g_aload_n dX10_lesser_64 rfl ?_
            refine g_geti (j := 13) dX10_lesser_65 gc10 rfl (by decide) rfl (by decide) fl_M_189 ?_
            try simp (disch := omega) only [e5, e6]
            refine g_ireturn dX10_lesser_68 rfl (by first | rfl | exact nar_bI _) ?_
            exact h2
          · rw [if_pos c54] at h2
            refine g_aload_n dX10_lesser_57 rfl ?_
            refine g_geti (j := 12) dX10_lesser_58 gc10 rfl (by decide) rfl (by decide) fl_M_186 ?_
            try simp (disch := omega) only [e5, e6]
            refine g_goto 68 dX10_lesser_61 (by decide) ?_
            refine g_ireturn dX10_lesser_68 rfl (by first | rfl | exact nar_bI _) ?_
            exact h2
        · rw [if_pos c28, decide_eq_true hp] at h2
          refine g_iload_n dX10_lesser_31 rfl ?_
          refine g_if_eq_tt 39 dX10_lesser_32 (by decide) ?_
          refine g_iconst (nI 1) dX10_lesser_35 ki_1 ?_
          refine g_goto 68 dX10_lesser_36 (by decide) ?_
          refine g_ireturn dX10_lesser_68 rfl (by first | rfl | exact nar_bI _) ?_
          exact h2
    · rw [if_neg (by rw [c16]; simp)] at h
      refine g_iconst ((-1)) dX10_lesser_19 ki_m1 ?_
      refine g_ireturn dX10_lesser_20 rfl (by first | rfl | exact nar_bI _) ?_
      exact h M FrM.rf hM
theorem both_lesser (k w : Int32) : Both mF_lesser mM_lesser [.int k, .int w] := both_book (f_lesser k w) (fun M S Q => SF_lesser k w M S Q) (fun M S Q => SM_lesser k w M S Q) (fun S hW hH => hH)
