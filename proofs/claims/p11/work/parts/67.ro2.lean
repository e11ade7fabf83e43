/-! rosters in the class: read, held, judged -/
theorem sd_onto {S : BS} {e : Nat} (he : e < S 1 0 0) : ∃ k, k < S 1 0 0 ∧ sd S k = e := sdF_onto _ _ _ he
theorem SX_readRoster {d : Nat} {n : Nat} {t : Nat → Nat} {M : Mm} {S : BS} {Q : Po} (hB : BK M S) (hT : TPc n t M) (h : ∀ M', EqO [41, 49] M M' → TC n t M' (enS n (roP S n t (S 1 0 0)).1) → (okB (enS n (roP S n t (S 1 0 0)).1) = true → ∀ e, e < S 1 0 0 → M' 49 e = hv ((roP S n t (S 1 0 0)).2 e)) → Q M' none) : Call (d + 6) mX_readRoster [.ref 43] M Q := by
  have hw := hB.wf.nd
  have hend : ∀ i M', i ≤ S 1 0 0 → EqO [41, 49] M M' → TC n t M' (roP S n t (S 1 0 0)).1 → (okB (roP S n t (S 1 0 0)).1 = true → ∀ e, e < S 1 0 0 → M' 49 e = hv ((roP S n t (S 1 0 0)).2 e)) → Go mX_readRoster (d + 6) Q 61 [some (.ref 43), some (.int (nI i))] [] M' := by
    intro i M' hi hE hT2 hv2
    refine g_aload_n dX8_readRoster_61 rfl ?_
    refine g_getr (j := 1) dX8_readRoster_62 gc8 rfl (by decide) rfl (by decide) fl_X_34 ?_
    refine g_call0 dX8_readRoster_65 clT_end ml_X_101 gc7 rfl rfl (by decide) (Nat.le_of_ble_eq_true rfl) ?_
    refine ST_end hT2 (fun M2 hE2 hT3 => ?_)
    refine g_return dX8_readRoster_68 rfl ?_
    refine h M2 (hE.tr (hE2.sub (by decide))) hT3 (fun hok e he => ?_)
    rw [hE2 49 (by decide)]
    exact hv2 (ok_en hok).1 e he
  clear h
  refine Call_of (m := mX_readRoster) [some (.ref 43), none] rfl (fun G => Nat.le_of_ble_eq_true rfl) (fun G => rfl) ?_
  refine g_aload_n dX8_readRoster_0 rfl ?_
  refine g_getr (j := 1) dX8_readRoster_1 gc8 rfl (by decide) rfl (by decide) fl_X_34 ?_
  refine g_call0 dX8_readRoster_4 clT_start ml_X_48 gc7 rfl rfl (by decide) (Nat.le_of_ble_eq_true rfl) ?_
  refine ST_start hT (fun M0 hE0 hT0 => ?_)
  refine g_iconst (nI 0) dX8_readRoster_7 ki_0 ?_
  refine g_ist2_1 dX8_readRoster_8 (by decide) rfl ?_
  refine loop_up (P := fun i => ∀ M', EqO [41, 49] M M' → TC n t M' (roP S n t i).1 → (okB (roP S n t i).1 = true → ∀ j, j < i → M' 49 (sd S j) = hv ((roP S n t i).2 (sd S j))) → Go mX_readRoster (d + 6) Q 9 [some (.ref 43), some (.int (nI i))] [] M') (S 1 0 0) ?_ 0 (Nat.zero_le _) M0 (hE0.sub (by decide)) hT0 (fun _ j hj => absurd hj (by omega))
  intro i hi ih M' hE hT2 hv2
  have hB' : BK M' S := hB.eqO hE (by decide)
  refine g_iload_n dX8_readRoster_9 rfl ?_
  refine g_aload_n dX8_readRoster_10 rfl ?_
  refine g_getr (j := 0) dX8_readRoster_11 gc8 rfl (by decide) rfl (by decide) fl_X_30 ?_
  refine g_geti (j := 1) dX8_readRoster_14 gc0 rfl (by decide) rfl (by decide) fl_X_89 ?_
  try simp (disch := omega) only [hB'.nd]
  refine g_icmp_ge_n 61 dX8_readRoster_17 (by decide) (by omega) (by omega) (fun c17 => ?_) (fun c17 => ?_)
  · obtain rfl : i = S 1 0 0 := by omega
    exact hend _ M' (Nat.le_refl _) hE hT2 (fun hok e he => by
      obtain ⟨k, hk, e1⟩ := sd_onto he
      rw [← e1]
      exact hv2 hok k hk)
  · refine g_aload_n dX8_readRoster_20 rfl ?_
    refine g_getr (j := 1) dX8_readRoster_21 gc8 rfl (by decide) rfl (by decide) fl_X_34 ?_
    refine g_call0 dX8_readRoster_24 clT_isFaulty ml_X_57 gc7 rfl rfl (by decide) (Nat.le_of_ble_eq_true rfl) ?_
    refine ST_isFaulty hT2 ?_
    by_cases hok : okB (roP S n t i).1 = true
    · rw [hok]
      have hC : ∀ M2, EqO [41, 49] M M2 → M2 49 = M' 49 → TC n t M2 (if i = 0 then (roP S n t i).1 else mu n t 59 (roP S n t i).1) → Go mX_readRoster (d + 6) Q 43 [some (.ref 43), some (.int (nI i))] [] M2 := by
        intro M2 hE2 h49 hT3
        have hB2 : BK M2 S := hB.eqO hE2 (by decide)
        refine g_aload_n dX8_readRoster_43 rfl ?_
        refine g_aload_n dX8_readRoster_44 rfl ?_
        refine g_getr (j := 0) dX8_readRoster_45 gc8 rfl (by decide) rfl (by decide) fl_X_30 ?_
        refine g_iload_n dX8_readRoster_48 rfl ?_
        refine g_call1 dX8_readRoster_49 clB_dutyAt ml_X_95 gc0 rfl rfl (by decide) (Nat.le_of_ble_eq_true rfl) ?_
        refine SB_dutyAt hB2 (by omega) ?_
        refine g_call1 dX8_readRoster_52 clX_readHolder ml_X_98 gc8 rfl rfl (by decide) (Nat.le_of_ble_eq_true rfl) ?_
        refine SX_readHolder hB2 (sd_lt (by omega)) hT3 (fun M3 hE3 hT4 ho3 hv3 => ?_)
        first | refine g_incn2_1 dX8_readRoster_55 ki_1 (by decide) rfl ?_ | refine g_incg2_1 (nI 1) dX8_readRoster_55 ki_1 (by decide) rfl ?_
        refine g_goto 9 dX8_readRoster_58 (by decide) ?_
        refine ih (by omega) M3 (hE2.tr hE3) (by rw [roP]; exact hT4) (fun hok3 j hj => ?_)
        rw [roP] at hok3 ⊢
        dsimp only at hok3 ⊢
        by_cases z : sd S j = sd S i
        · rw [z, if_pos rfl]; exact hv3 hok3
        · rw [if_neg z, ho3 _ z, h49]
          refine hv2 hok j ?_
          rcases Nat.lt_or_ge j i with y | y
          · exact y
          · exact absurd (by rw [show j = i by omega]) z
      refine g_if_ne_ff 61 dX8_readRoster_27 (by decide) ?_
      refine g_iload_n dX8_readRoster_30 rfl ?_
      refine g_if_le_n 43 dX8_readRoster_31 (by decide) (by omega) (fun c31 => ?_) (fun c31 => ?_)
      · exact hC M' hE rfl (by rw [if_pos (by omega)]; exact hT2)
      · refine g_aload_n dX8_readRoster_34 rfl ?_
        refine g_getr (j := 1) dX8_readRoster_35 gc8 rfl (by decide) rfl (by decide) fl_X_34 ?_
        refine g_bipush (nI 59) dX8_readRoster_38 kb_59 ?_
        refine g_call1 dX8_readRoster_40 clT_take ml_X_79 gc7 rfl rfl (by decide) (Nat.le_of_ble_eq_true rfl) ?_
        refine ST_take (c := 59) (by omega) hT2 (fun M2 hE2 hT3 => ?_)
        exact hC M2 (hE.tr (hE2.sub (by decide))) (hE2 49 (by decide)) (by rw [if_neg (by omega)]; exact hT3)
    · have hok := Bool.eq_false_iff.mpr hok
      rw [hok]
      have e1 := roP_no hok (S 1 0 0 - i)
      rw [show i + (S 1 0 0 - i) = S 1 0 0 by omega] at e1
      refine g_if_ne_tt 61 dX8_readRoster_27 (by decide) ?_
      exact hend i M' (by omega) hE (by rw [e1]; exact hT2) (fun z => by rw [e1, hok] at z; cases z)
/-- the first, as they stand, whom one may not hold -/
def barB (S : BS) (f : Nat → Nat) (i : Nat) : Bool := !(f (sd S i) == 8) && !mayB S (f (sd S i)) (sd S i)
def barI (S : BS) (f : Nat → Nat) : Nat := fstN (barB S f) (S 1 0 0)
def barV (S : BS) (f : Nat → Nat) : Int32 := if barI S f = S 1 0 0 then -1 else nI (sd S (barI S f))
theorem SX_first {d : Nat} {M : Mm} {S : BS} {Q : Po} {f : Nat → Nat} (hB : BK M S) (hf : ∀ e, e < S 1 0 0 → M 49 e = hv (f e)) (hf8 : ∀ e, f e ≤ 8) (h : Q M (some (.int (barV S f)))) : Call (d + 3) mX_firstThatMayNotBe [.ref 43] M Q := by
  have hw := hB.wf.nd
  refine Call_of (m := mX_firstThatMayNotBe) [some (.ref 43), none, none] rfl (fun G => Nat.le_of_ble_eq_true rfl) (fun G => rfl) ?_
  refine g_iconst (nI 0) dX8_firstThatMayNotBe_0 ki_0 ?_
  refine g_ist3_1 dX8_firstThatMayNotBe_1 (by decide) rfl ?_
  refine loop_up (P := fun i => (∀ j, j < i → barB S f j = false) → Go mX_firstThatMayNotBe (d + 3) Q 2 [some (.ref 43), some (.int (nI i)), none] [] M) (S 1 0 0) ?_ 0 (Nat.zero_le _) (fun j hj => absurd hj (by omega))
  intro i hi ih hno
  refine g_iload_n dX8_firstThatMayNotBe_2 rfl ?_
  refine g_aload_n dX8_firstThatMayNotBe_3 rfl ?_
  refine g_getr (j := 0) dX8_firstThatMayNotBe_4 gc8 rfl (by decide) rfl (by decide) fl_X_30 ?_
  refine g_geti (j := 1) dX8_firstThatMayNotBe_7 gc0 rfl (by decide) rfl (by decide) fl_X_89 ?_
  try simp (disch := omega) only [hB.nd]
  refine g_icmp_ge_n 71 dX8_firstThatMayNotBe_10 (by decide) (by omega) (by omega) (fun c10 => ?_) (fun c10 => ?_)
  · have e1 : barI S f = S 1 0 0 := fstN_eq hno (by omega)
    rw [barV, if_pos e1] at h
    refine g_iconst ((-1)) dX8_firstThatMayNotBe_71 ki_m1 ?_
    refine g_ireturn dX8_firstThatMayNotBe_72 rfl (by first | rfl | exact nar_bI _) ?_
    exact h
  · have hsd := sd_lt (S := S) (k := i) (by omega)
    have h49 := hf (sd S i) hsd
    have h8 := hf8 (sd S i)
    have hnext : barB S f i = false → Go mX_firstThatMayNotBe (d + 3) Q 65 [some (.ref 43), some (.int (nI i)), some (.int (nI (sd S i)))] [] M := by
      intro hb
      first | refine g_incn3_1 dX8_firstThatMayNotBe_65 ki_1 (by decide) rfl ?_ | refine g_incg3_1 (nI 1) dX8_firstThatMayNotBe_65 ki_1 (by decide) rfl ?_
      refine g_goto 2 dX8_firstThatMayNotBe_68 (by decide) ?_
      refine Go_sub [some (.ref 43), some (.int (nI (i + 1))), none] (by simp [subL]) (ih (by omega) (fun j hj => ?_))
      by_cases e : j = i
      · rw [e]; exact hb
      · exact hno j (by omega)
    refine g_aload_n dX8_firstThatMayNotBe_13 rfl ?_
    refine g_getr (j := 0) dX8_firstThatMayNotBe_14 gc8 rfl (by decide) rfl (by decide) fl_X_30 ?_
    refine g_iload_n dX8_firstThatMayNotBe_17 rfl ?_
    refine g_call1 dX8_firstThatMayNotBe_18 clB_dutyAt ml_X_95 gc0 rfl rfl (by decide) (Nat.le_of_ble_eq_true rfl) ?_
    refine SB_dutyAt hB (by omega) ?_
    refine g_ist3_2 dX8_firstThatMayNotBe_21 (by decide) rfl ?_
    refine g_aload_n dX8_firstThatMayNotBe_22 rfl ?_
    refine g_getr (j := 0) dX8_firstThatMayNotBe_23 gc8 rfl (by decide) rfl (by decide) fl_X_30 ?_
    refine g_iload_n dX8_firstThatMayNotBe_26 rfl ?_
    refine g_call1 dX8_firstThatMayNotBe_27 clB_isDuty ml_X_104 gc0 rfl rfl (by decide) (Nat.le_of_ble_eq_true rfl) ?_
    refine SB_isDutyT hB hsd ?_
    refine g_if_eq_tt 65 dX8_firstThatMayNotBe_30 (by decide) ?_
    refine g_aload_n dX8_firstThatMayNotBe_33 rfl ?_
    refine g_getr (j := 7) dX8_firstThatMayNotBe_34 gc8 rfl (by decide) rfl (by decide) fl_X_27 ?_
    refine g_iload_n dX8_firstThatMayNotBe_37 rfl ?_
    refine g_iald_n dX8_firstThatMayNotBe_38 (by first | rfl | assumption) (by first | decide | assumption) (by omega) (by omega) ?_
    try simp (disch := omega) only [h49]
    refine g_iconst ((-1)) dX8_firstThatMayNotBe_39 ki_m1 ?_
    refine g_icmp_ne 46 dX8_firstThatMayNotBe_40 (by decide) (fun c40 => ?_) (fun c40 => ?_)
    · rw [hv_open _ h8] at c40
      refine g_aload_n dX8_firstThatMayNotBe_46 rfl ?_
      refine g_getr (j := 0) dX8_firstThatMayNotBe_47 gc8 rfl (by decide) rfl (by decide) fl_X_30 ?_
      refine g_aload_n dX8_firstThatMayNotBe_50 rfl ?_
      refine g_getr (j := 7) dX8_firstThatMayNotBe_51 gc8 rfl (by decide) rfl (by decide) fl_X_27 ?_
      refine g_iload_n dX8_firstThatMayNotBe_54 rfl ?_
      refine g_iald_n dX8_firstThatMayNotBe_55 (by first | rfl | assumption) (by first | decide | assumption) (by omega) (by omega) ?_
      try simp (disch := omega) only [h49]
      refine g_iload_n dX8_firstThatMayNotBe_56 rfl ?_
      refine g_call2 dX8_firstThatMayNotBe_57 clB_mayHold ml_X_119 gc0 rfl rfl (by decide) (Nat.le_of_ble_eq_true rfl) ?_
      rw [hv_p (p := f (sd S i)) (by omega)]
      refine SB_mayHold hB (by omega) hsd ?_
      refine g_if_ne_b 65 dX8_firstThatMayNotBe_60 (by decide) (fun c60 => ?_) (fun c60 => ?_)
      · refine hnext ?_
        unfold barB
        rw [c60]
        simp
      · have hb : barB S f i = true := by
          unfold barB
          rw [c60]
          simp [c40]
        have e1 : barI S f = i := fstN_hit hno hb (by omega)
        rw [barV, e1, if_neg (by omega)] at h
        refine g_iload_n dX8_firstThatMayNotBe_63 rfl ?_
        refine g_ireturn dX8_firstThatMayNotBe_64 rfl (by first | rfl | exact nar_bI _) ?_
        exact h
    · rw [hv_open _ h8] at c40
      refine g_goto 65 dX8_firstThatMayNotBe_43 (by decide) ?_
      refine hnext ?_
      unfold barB
      rw [c40]
      rfl
def hoS (S : BS) (f : Nat → Nat) (k : Nat) : BS := fun a b c => if a = 12 ∧ c = 0 ∧ b < k then f b else S a b c
theorem hoS_oth {S : BS} {f : Nat → Nat} {k a : Nat} (h : a ≠ 12) : hoS S f k a = S a := by
  funext b c
  unfold hoS
  rw [if_neg (fun z => h z.1)]
theorem hoS_ho {S : BS} {f : Nat → Nat} {k b : Nat} (h : b < k) : hoS S f k 12 b 0 = f b := by
  unfold hoS
  rw [if_pos ⟨rfl, rfl, h⟩]
theorem hoS_0 (S : BS) (f : Nat → Nat) : hoS S f 0 = S := by
  funext a b c
  unfold hoS
  rw [if_neg (by omega)]
theorem hoS_step (S : BS) (f : Nat → Nat) (k : Nat) : hoS S f (k + 1) = up (hoS S f k) 12 k 0 (f k) := by
  funext a b c
  by_cases z : a = 12 ∧ b = k ∧ c = 0
  · obtain ⟨rfl, rfl, rfl⟩ := z
    rw [up_at, hoS_ho (by omega)]
  · rw [up_off z]
    unfold hoS
    by_cases y : a = 12 ∧ c = 0 ∧ b < k
    · rw [if_pos y, if_pos (by omega)]
    · rw [if_neg y, if_neg (by omega)]
theorem SX_holdAsPlanned {d : Nat} {M : Mm} {S : BS} {Q : Po} {f : Nat → Nat} (hB : BK M S) (hf : ∀ e, e < S 1 0 0 → M 49 e = hv (f e)) (hf8 : ∀ e, f e ≤ 8) (h : ∀ M', EqO [2] M M' → BK M' (hoS S f (S 1 0 0)) → Q M' none) : Call (d + 3) mX_holdAsPlanned [.ref 43] M Q := by
  have hw := hB.wf.nd
  refine Call_of (m := mX_holdAsPlanned) [some (.ref 43), none] rfl (fun G => Nat.le_of_ble_eq_true rfl) (fun G => rfl) ?_
  refine g_iconst (nI 0) dX8_holdAsPlanned_0 ki_0 ?_
  refine g_ist2_1 dX8_holdAsPlanned_1 (by decide) rfl ?_
  refine loop_up (P := fun i => ∀ M', EqO [2] M M' → BK M' (hoS S f i) → Go mX_holdAsPlanned (d + 3) Q 2 [some (.ref 43), some (.int (nI i))] [] M') (S 1 0 0) ?_ 0 (Nat.zero_le _) M EqO.rf (by rw [hoS_0]; exact hB)
  intro i hi ih M' hE hB'
  have e1 : ∀ k, hoS S f k 1 0 0 = S 1 0 0 := fun k => by rw [hoS_oth (by decide)]
  refine g_iload_n dX8_holdAsPlanned_2 rfl ?_
  refine g_aload_n dX8_holdAsPlanned_3 rfl ?_
  refine g_getr (j := 0) dX8_holdAsPlanned_4 gc8 rfl (by decide) rfl (by decide) fl_X_30 ?_
  refine g_geti (j := 1) dX8_holdAsPlanned_7 gc0 rfl (by decide) rfl (by decide) fl_X_89 ?_
  try simp (disch := omega) only [hB'.nd, e1]
  refine g_icmp_ge_n 39 dX8_holdAsPlanned_10 (by decide) (by omega) (by omega) (fun c10 => ?_) (fun c10 => ?_)
  · refine g_return dX8_holdAsPlanned_39 rfl ?_
    rw [show i = S 1 0 0 by omega] at hB'
    exact h M' hE hB'
  · refine g_iload_n dX8_holdAsPlanned_13 rfl ?_
    refine g_bipush (nI 24) dX8_holdAsPlanned_14 kb_24 ?_
    refine g_icmp_ge_n 39 dX8_holdAsPlanned_16 (by decide) (by omega) (by omega) (fun c16 => ?_) (fun c16 => ?_)
    · exact absurd hw (by omega)
    · have h49 : M' 49 i = hv (f i) := by rw [hE 49 (by decide)]; exact hf i (by omega)
      refine g_aload_n dX8_holdAsPlanned_19 rfl ?_
      refine g_getr (j := 0) dX8_holdAsPlanned_20 gc8 rfl (by decide) rfl (by decide) fl_X_30 ?_
      refine g_iload_n dX8_holdAsPlanned_23 rfl ?_
      refine g_aload_n dX8_holdAsPlanned_24 rfl ?_
      refine g_getr (j := 7) dX8_holdAsPlanned_25 gc8 rfl (by decide) rfl (by decide) fl_X_27 ?_
      refine g_iload_n dX8_holdAsPlanned_28 rfl ?_
      refine g_iald_n dX8_holdAsPlanned_29 (by first | rfl | assumption) (by first | decide | assumption) (by omega) (by omega) ?_
      try simp (disch := omega) only [h49]
      refine g_call2 dX8_holdAsPlanned_30 clB_putHolder ml_X_123 gc0 rfl rfl (by decide) (Nat.le_of_ble_eq_true rfl) ?_
      refine SB_putHolder hB' (by rw [e1]; omega) ?_
      first | refine g_incn2_1 dX8_holdAsPlanned_33 ki_1 (by decide) rfl ?_ | refine g_incg2_1 (nI 1) dX8_holdAsPlanned_33 ki_1 (by decide) rfl ?_
      refine g_goto 2 dX8_holdAsPlanned_36 (by decide) ?_
      refine ih (by omega) _ (hE.tr (EqO.set (by decide))) ?_
      rw [hoS_step]
      exact hB'.hol1 (by rw [e1]; omega) (hf8 i)
/-- the first place at which two rows aren't alike -/
def cmpI (v w : Nat → Nat) (n : Nat) : Nat := fstN (fun j => !(v j == w j)) n
def cmpV (v w : Nat → Nat) (n : Nat) : Int32 := if cmpI v w n = n then nI 0 else if v (cmpI v w n) < w (cmpI v w n) then -1 else nI 1
theorem SL_compare {d : Nat} {M : Mm} {S : BS} {Q : Po} {f : Nat → Nat} (hB : BK M S) (hf : ∀ e, e < S 1 0 0 → M 49 e = hv (f e)) (hf8 : ∀ e, f e ≤ 8) {k : Nat} (hk : k < 4) (h : ∀ M', EqO [28, 29] M M' → Q M' (some (.int (cmpV (vecV S f k (S 0 0 0)) (vecV S (hoF S) k (S 0 0 0)) (cnt (hr S) (S 0 0 0)))))) : Call (d + 5) mL_compareWithNow [.ref 27, .ref 49, .int (nI k)] M Q := by
  have hw := hB.wf.np
  have hcl := cnt_le (hr S) (S 0 0 0)
  have hv1 := vecV_le hB.wf f hk (n := S 0 0 0) (Nat.le_refl _)
  have hv2 := vecV_le hB.wf (hoF S) hk (n := S 0 0 0) (Nat.le_refl _)
  refine Call_of (m := mL_compareWithNow) [some (.ref 27), some (.ref 49), some (.int (nI k)), none, none] rfl (fun G => Nat.le_of_ble_eq_true rfl) (fun G => rfl) ?_
  refine g_aload_n dX2_compareWithNow_0 rfl ?_
  refine g_aload_n dX2_compareWithNow_1 rfl ?_
  refine g_getr (j := 1) dX2_compareWithNow_2 gc2 rfl (by decide) rfl (by decide) fl_L_9 ?_
  refine g_aload_n dX2_compareWithNow_5 rfl ?_
  refine g_getr (j := 0) dX2_compareWithNow_6 gc2 rfl (by decide) rfl (by decide) fl_L_21 ?_
  refine g_getr (j := 3) dX2_compareWithNow_9 gc0 rfl (by decide) rfl (by decide) fl_L_25 ?_
  refine g_iload_n dX2_compareWithNow_12 rfl ?_
  refine g_call3 dX2_compareWithNow_13 clL_makeVector ml_L_30 gc2 rfl rfl (by decide) (Nat.le_of_ble_eq_true rfl) ?_
  refine SL_make2 hB hk (fun M1 hE1 hr1 => ?_)
  refine g_ist5_3 dX2_compareWithNow_16 (by decide) rfl ?_
  refine g_aload_n dX2_compareWithNow_17 rfl ?_
  refine g_aload_n dX2_compareWithNow_18 rfl ?_
  refine g_getr (j := 2) dX2_compareWithNow_19 gc2 rfl (by decide) rfl (by decide) fl_L_15 ?_
  refine g_aload_n dX2_compareWithNow_22 rfl ?_
  refine g_iload_n dX2_compareWithNow_23 rfl ?_
  refine g_call3 dX2_compareWithNow_24 clL_makeVector ml_L_30 gc2 rfl rfl (by decide) (Nat.le_of_ble_eq_true rfl) ?_
  refine SL_make_29 (hB.eqO hE1 (by decide)) f (fun i hi => by rw [hE1 49 (by decide)]; exact hf i hi) (fun i hi => hf8 i) hk (fun M2 hE2 hr2 => ?_)
  have h := h M2 ((hE1.sub (by decide)).tr (hE2.sub (by decide)))
  have hr1' : ∀ j, j < cnt (hr S) (S 0 0 0) → M2 28 j = nI (vecV S (hoF S) k (S 0 0 0) j) := fun j hj => by rw [hE2 28 (by decide)]; exact hr1 j hj
  generalize vecV S f k (S 0 0 0) = v at hr2 h hv1
  generalize vecV S (hoF S) k (S 0 0 0) = w at hr1' h hv2
  generalize cnt (hr S) (S 0 0 0) = n at hr1' hr2 h hv1 hv2 hcl ⊢
  refine g_pop dX2_compareWithNow_27 rfl ?_
  refine g_iconst (nI 0) dX2_compareWithNow_28 ki_0 ?_
  refine g_ist5_4 dX2_compareWithNow_29 (by decide) rfl ?_
  refine loop_up (P := fun i => (∀ j, j < i → (!(v j == w j)) = false) → Go mL_compareWithNow (d + 5) Q 31 [some (.ref 27), some (.ref 49), some (.int (nI k)), some (.int (nI n)), some (.int (nI i))] [] M2) n ?_ 0 (Nat.zero_le _) (fun j hj => absurd hj (by omega))
  intro i hi ih hno
  refine g_iload dX2_compareWithNow_31 rfl ?_
  refine g_iload_n dX2_compareWithNow_33 rfl ?_
  refine g_icmp_ge_n 90 dX2_compareWithNow_34 (by decide) (by omega) (by omega) (fun c34 => ?_) (fun c34 => ?_)
  · have e1 : cmpI v w n = n := fstN_eq (f := fun j => !(v j == w j)) hno (by omega)
    rw [cmpV, if_pos e1] at h
    refine g_iconst (nI 0) dX2_compareWithNow_90 ki_0 ?_
    refine g_ireturn dX2_compareWithNow_91 rfl (by first | rfl | exact nar_bI _) ?_
    exact h
  · have b1 := hv1 i (by omega)
    have b2 := hv2 i (by omega)
    refine g_iload dX2_compareWithNow_37 rfl ?_
    refine g_bipush (nI 8) dX2_compareWithNow_39 kb_8 ?_
    refine g_icmp_ge_n 90 dX2_compareWithNow_41 (by decide) (by omega) (by omega) (fun c41 => ?_) (fun c41 => ?_)
    · exact absurd hcl (by omega)
    · refine g_aload_n dX2_compareWithNow_44 rfl ?_
      refine g_getr (j := 2) dX2_compareWithNow_45 gc2 rfl (by decide) rfl (by decide) fl_L_15 ?_
      refine g_iload dX2_compareWithNow_48 rfl ?_
      refine g_iald_n dX2_compareWithNow_50 (by first | rfl | assumption) (by first | decide | assumption) (by omega) (by omega) ?_
      try simp (disch := omega) only [hr1', hr2]
      refine g_aload_n dX2_compareWithNow_51 rfl ?_
      refine g_getr (j := 1) dX2_compareWithNow_52 gc2 rfl (by decide) rfl (by decide) fl_L_9 ?_
      refine g_iload dX2_compareWithNow_55 rfl ?_
      refine g_iald_n dX2_compareWithNow_57 (by first | rfl | assumption) (by first | decide | assumption) (by omega) (by omega) ?_
      try simp (disch := omega) only [hr1', hr2]
      refine g_icmp_eq_n 84 dX2_compareWithNow_58 (by decide) (by omega) (by omega) (fun c58 => ?_) (fun c58 => ?_)
      · first | refine g_incn5_4 dX2_compareWithNow_84 ki_1 (by decide) rfl ?_ | refine g_incg5_4 (nI 1) dX2_compareWithNow_84 ki_1 (by decide) rfl ?_
        refine g_goto 31 dX2_compareWithNow_87 (by decide) ?_
        refine ih (by omega) (fun j hj => ?_)
        by_cases e : j = i
        · rw [e, c58]; simp
        · exact hno j (by omega)
      · have e1 : cmpI v w n = i := fstN_hit (f := fun j => !(v j == w j)) hno (by simp [c58]) (by omega)
        rw [cmpV, e1, if_neg (by omega)] at h
        refine g_aload_n dX2_compareWithNow_61 rfl ?_
        refine g_getr (j := 2) dX2_compareWithNow_62 gc2 rfl (by decide) rfl (by decide) fl_L_15 ?_
        refine g_iload dX2_compareWithNow_65 rfl ?_
        refine g_iald_n dX2_compareWithNow_67 (by first | rfl | assumption) (by first | decide | assumption) (by omega) (by omega) ?_
        try simp (disch := omega) only [hr1', hr2]
        refine g_aload_n dX2_compareWithNow_68 rfl ?_
        refine g_getr (j := 1) dX2_compareWithNow_69 gc2 rfl (by decide) rfl (by decide) fl_L_9 ?_
        refine g_iload dX2_compareWithNow_72 rfl ?_
        refine g_iald_n dX2_compareWithNow_74 (by first | rfl | assumption) (by first | decide | assumption) (by omega) (by omega) ?_
        try simp (disch := omega) only [hr1', hr2]
        refine g_icmp_ge_n 82 dX2_compareWithNow_75 (by decide) (by omega) (by omega) (fun c75 => ?_) (fun c75 => ?_)
        · rw [if_neg (by omega)] at h
          refine g_iconst (nI 1) dX2_compareWithNow_82 ki_1 ?_
          refine g_ireturn dX2_compareWithNow_83 rfl (by first | rfl | exact nar_bI _) ?_
          exact h
        · rw [if_pos (by omega)] at h
          refine g_iconst ((-1)) dX2_compareWithNow_78 ki_m1 ?_
          refine g_goto 83 dX2_compareWithNow_79 (by decide) ?_
          refine g_ireturn dX2_compareWithNow_83 rfl (by first | rfl | exact nar_bI _) ?_
          exact h
