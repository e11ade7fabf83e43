/-! judge, roster in the class -/
def jdO (S : BS) (f : Nat → Nat) : Nat := fstN (fun k => decide (heldN S 8 k < heldF S f 8 k)) 4
def jdW (S : BS) (f : Nat → Nat) (k : Nat) : Int32 := cmpV (vecV S f k (S 0 0 0)) (vecV S (hoF S) k (S 0 0 0)) (cnt (hr S) (S 0 0 0))
def jdC (S : BS) (f : Nat → Nat) : Nat := fstN (fun k => !(jdW S f k == nI 0)) 4
def jdV (S : BS) (f : Nat → Nat) : Int32 := if jdO S f = 4 then (if jdC S f = 4 then -5 else if jdW S f (jdC S f) < 0 then nI (200 + jdC S f) else nI (300 + jdC S f)) else nI (100 + jdO S f)
theorem SF_judgeLoads {d : Nat} {M : Mm} {S : BS} {Q : Po} {f : Nat → Nat} (hB : BK M S) (hf : ∀ e, e < S 1 0 0 → M 49 e = hv (f e)) (hf8 : ∀ e, f e ≤ 8) (h : ∀ M', EqO [28, 29] M M' → Q M' (some (.int (jdV S f)))) : Call (d + 6) mF_judgeLoads [.ref 0, .ref 49] M Q := by
  have hw := hB.wf.nd
  refine Call_of (m := mF_judgeLoads) [some (.ref 0), some (.ref 49), none, none] rfl (fun G => Nat.le_of_ble_eq_true rfl) (fun G => rfl) ?_
  refine g_iconst (nI 0) dX9_judgeLoads_0 ki_0 ?_
  refine g_ist4_2 dX9_judgeLoads_1 (by decide) rfl ?_
  refine loop_up (P := fun i => (∀ j, j < i → decide (heldN S 8 j < heldF S f 8 j) = false) → Go mF_judgeLoads (d + 6) Q 2 [some (.ref 0), some (.ref 49), some (.int (nI i)), none] [] M) 4 ?_ 0 (Nat.zero_le _) (fun j hj => absurd hj (by omega))
  intro i hi ih hno
  refine g_iload_n dX9_judgeLoads_2 rfl ?_
  refine g_iconst (nI 4) dX9_judgeLoads_3 ki_4 ?_
  refine g_icmp_ge_n 45 dX9_judgeLoads_4 (by decide) (by omega) (by omega) (fun c4 => ?_) (fun c4 => ?_)
  · have e1 : jdO S f = 4 := fstN_eq (f := fun k => decide (heldN S 8 k < heldF S f 8 k)) hno (by omega)
    rw [jdV, if_pos e1] at h
    refine g_iconst (nI 0) dX9_judgeLoads_45 ki_0 ?_
    refine g_ist4_2 dX9_judgeLoads_46 (by decide) rfl ?_
    refine loop_up (P := fun i => ∀ M', EqO [28, 29] M M' → (∀ j, j < i → (!(jdW S f j == nI 0)) = false) → Go mF_judgeLoads (d + 6) Q 47 [some (.ref 0), some (.ref 49), some (.int (nI i)), none] [] M') 4 ?_ 0 (Nat.zero_le _) M EqO.rf (fun j hj => absurd hj (by omega))
    intro i hi ih M' hE hno2
    refine g_iload_n dX9_judgeLoads_47 rfl ?_
    refine g_iconst (nI 4) dX9_judgeLoads_48 ki_4 ?_
    refine g_icmp_ge_n 88 dX9_judgeLoads_49 (by decide) (by omega) (by omega) (fun c49 => ?_) (fun c49 => ?_)
    · have e2 : jdC S f = 4 := fstN_eq (f := fun k => !(jdW S f k == nI 0)) hno2 (by omega)
      rw [if_pos e2] at h
      refine g_bipush ((-5)) dX9_judgeLoads_88 kb_m5 ?_
      refine g_ireturn dX9_judgeLoads_90 rfl (by first | rfl | exact nar_bI _) ?_
      exact h M' hE
    · refine g_aload_n dX9_judgeLoads_52 rfl ?_
      refine g_getr (j := 3) dX9_judgeLoads_53 gc9 rfl (by decide) rfl (by decide) fl_F_31 ?_
      refine g_aload_n dX9_judgeLoads_56 rfl ?_
      refine g_iload_n dX9_judgeLoads_57 rfl ?_
      refine g_call2 dX9_judgeLoads_58 clL_compareWithNow ml_F_343 gc2 rfl rfl (by decide) (Nat.le_of_ble_eq_true rfl) ?_
      refine SL_compare (f := f) (hB.eqO hE (by decide)) (fun e he => by rw [hE 49 (by decide)]; exact hf e he) hf8 (by omega) (fun M2 hE2 => ?_)
      rw [show cmpV (vecV S f i (S 0 0 0)) (vecV S (hoF S) i (S 0 0 0)) (cnt (hr S) (S 0 0 0)) = jdW S f i from rfl]
      refine g_ist4_3 dX9_judgeLoads_61 (by decide) rfl ?_
      refine g_iload_n dX9_judgeLoads_62 rfl ?_
      refine g_if_eq 82 dX9_judgeLoads_63 (by decide) (fun c63 => ?_) (fun c63 => ?_)
      · first | refine g_incn4_2 dX9_judgeLoads_82 ki_1 (by decide) rfl ?_ | refine g_incg4_2 (nI 1) dX9_judgeLoads_82 ki_1 (by decide) rfl ?_
        refine g_goto 47 dX9_judgeLoads_85 (by decide) ?_
        refine Go_sub [some (.ref 0), some (.ref 49), some (.int (nI (i + 1))), none] (by simp [subL]) (ih (by omega) M2 (hE.tr hE2) (fun j hj => ?_))
        by_cases e : j = i
        · rw [e, c63]; rfl
        · exact hno2 j (by omega)
      · have e2 : jdC S f = i := fstN_hit (f := fun k => !(jdW S f k == nI 0)) hno2 (by rw [Bool.not_eq_true', beq_eq_false_iff_ne]; exact c63) (by omega)
        rw [e2, if_neg (by omega)] at h
        refine g_iload_n dX9_judgeLoads_66 rfl ?_
        refine g_if_ge 76 dX9_judgeLoads_67 (by decide) (fun c67 => ?_) (fun c67 => ?_)
        · rw [if_neg (Int32.not_lt.mpr c67)] at h
          refine g_sipush (nI 300) dX9_judgeLoads_76 ks_300 ?_
          refine g_iload_n dX9_judgeLoads_79 rfl ?_
          first | refine g_iadd_n dX9_judgeLoads_80 ?_ | refine g_iadd dX9_judgeLoads_80 ?_
          refine g_ireturn dX9_judgeLoads_81 rfl (by first | rfl | exact nar_bI _) ?_
          exact h M2 (hE.tr hE2)
        · rw [if_pos (Int32.not_le.mp c67)] at h
          refine g_sipush (nI 200) dX9_judgeLoads_70 ks_200 ?_
          refine g_goto 79 dX9_judgeLoads_73 (by decide) ?_
          refine g_iload_n dX9_judgeLoads_79 rfl ?_
          first | refine g_iadd_n dX9_judgeLoads_80 ?_ | refine g_iadd dX9_judgeLoads_80 ?_
          refine g_ireturn dX9_judgeLoads_81 rfl (by first | rfl | exact nar_bI _) ?_
          exact h M2 (hE.tr hE2)
  · have hl1 := heldF_le S f 8 i
    have hl2 : heldN S 8 i ≤ S 1 0 0 := heldF_le S _ 8 i
    refine g_aload_n dX9_judgeLoads_7 rfl ?_
    refine g_getr (j := 0) dX9_judgeLoads_8 gc9 rfl (by decide) rfl (by decide) fl_F_13 ?_
    refine g_aload_n dX9_judgeLoads_11 rfl ?_
    refine g_iload_n dX9_judgeLoads_12 rfl ?_
    refine g_call2 dX9_judgeLoads_13 clB_countOpenBy ml_F_306 gc0 rfl rfl (by decide) (Nat.le_of_ble_eq_true rfl) ?_
    refine SB_countOpenBy_49 hB f hf (fun i _ => hf8 i) (by omega) ?_
    refine g_aload_n dX9_judgeLoads_16 rfl ?_
    refine g_getr (j := 0) dX9_judgeLoads_17 gc9 rfl (by decide) rfl (by decide) fl_F_13 ?_
    refine g_aload_n dX9_judgeLoads_20 rfl ?_
    refine g_getr (j := 0) dX9_judgeLoads_21 gc9 rfl (by decide) rfl (by decide) fl_F_13 ?_
    refine g_getr (j := 3) dX9_judgeLoads_24 gc0 rfl (by decide) rfl (by decide) fl_F_302 ?_
    refine g_iload_n dX9_judgeLoads_27 rfl ?_
    refine g_call2 dX9_judgeLoads_28 clB_countOpenBy ml_F_306 gc0 rfl rfl (by decide) (Nat.le_of_ble_eq_true rfl) ?_
    refine SB_countOpenBy_2 hB (fun e => S 12 e 0) (fun i hi => hB.ho hi) (fun i hi => (hB.wf.dk (by omega)).2.2) (by omega) ?_
    rw [show heldF S (fun e => S 12 e 0) 8 i = heldN S 8 i from rfl]
    refine g_icmp_le_n 39 dX9_judgeLoads_31 (by decide) (by omega) (by omega) (fun c31 => ?_) (fun c31 => ?_)
    · first | refine g_incn4_2 dX9_judgeLoads_39 ki_1 (by decide) rfl ?_ | refine g_incg4_2 (nI 1) dX9_judgeLoads_39 ki_1 (by decide) rfl ?_
      refine g_goto 2 dX9_judgeLoads_42 (by decide) ?_
      refine ih (by omega) (fun j hj => ?_)
      by_cases e : j = i
      · rw [e]; exact decide_eq_false (by omega)
      · exact hno j (by omega)
    · have e2 : jdO S f = i := fstN_hit (f := fun k => decide (heldN S 8 k < heldF S f 8 k)) hno (decide_eq_true (by omega)) (by omega)
      rw [jdV, e2, if_neg (by omega)] at h
      refine g_bipush (nI 100) dX9_judgeLoads_34 kb_100 ?_
      refine g_iload_n dX9_judgeLoads_36 rfl ?_
      first | refine g_iadd_n dX9_judgeLoads_37 ?_ | refine g_iadd dX9_judgeLoads_37 ?_
      refine g_ireturn dX9_judgeLoads_38 rfl (by first | rfl | exact nar_bI _) ?_
      exact h M EqO.rf
theorem SF_readsRoster {d : Nat} {n : Nat} {t : Nat → Nat} {M : Mm} {S : BS} {Q : Po} (hB : BK M S) (hT : TPc n t M) (h0 : S 1 0 0 = 0 → Q (mset M 41 1 (nI 0)) (some (.int (bI false)))) (h1 : S 1 0 0 ≠ 0 → ∀ M', EqO [41, 49] M M' → TC n t M' (enS n (roP S n t (S 1 0 0)).1) → (okB (enS n (roP S n t (S 1 0 0)).1) = true → ∀ e, e < S 1 0 0 → M' 49 e = hv ((roP S n t (S 1 0 0)).2 e)) → Q M' (some (.int (bI true)))) : Call (d + 7) mF_readsRoster [.ref 0] M Q := by
  have hw := hB.wf.nd
  refine Call_of (m := mF_readsRoster) [some (.ref 0)] rfl (fun G => Nat.le_of_ble_eq_true rfl) (fun G => rfl) ?_
  refine g_aload_n dX9_readsRoster_0 rfl ?_
  refine g_getr (j := 0) dX9_readsRoster_1 gc9 rfl (by decide) rfl (by decide) fl_F_13 ?_
  refine g_geti (j := 1) dX9_readsRoster_4 gc0 rfl (by decide) rfl (by decide) fl_F_164 ?_
  try simp (disch := omega) only [hB.nd]
  refine g_if_ne_n 20 dX9_readsRoster_7 (by decide) (by omega) (fun c7 => ?_) (fun c7 => ?_)
  · refine g_aload_n dX9_readsRoster_20 rfl ?_
    refine g_getr (j := 7) dX9_readsRoster_21 gc9 rfl (by decide) rfl (by decide) fl_F_58 ?_
    refine g_call0 dX9_readsRoster_24 clX_readRoster ml_F_340 gc8 rfl rfl (by decide) (Nat.le_of_ble_eq_true rfl) ?_
    refine SX_readRoster hB hT (fun M' hE hT2 hv2 => ?_)
    refine g_iconst (nI 1) dX9_readsRoster_27 ki_1 ?_
    refine g_ireturn dX9_readsRoster_28 rfl (by first | rfl | exact nar_bI _) ?_
    exact h1 c7 M' hE hT2 hv2
  · refine g_aload_n dX9_readsRoster_10 rfl ?_
    refine g_getr (j := 6) dX9_readsRoster_11 gc9 rfl (by decide) rfl (by decide) fl_F_49 ?_
    refine g_call0 dX9_readsRoster_14 clT_wipe ml_F_158 gc7 rfl rfl (by decide) (Nat.le_of_ble_eq_true rfl) ?_
    refine ST_wipe ?_
    refine g_pop dX9_readsRoster_17 rfl ?_
    refine g_iconst (nI 0) dX9_readsRoster_18 ki_0 ?_
    refine g_ireturn dX9_readsRoster_19 rfl (by first | rfl | exact nar_bI _) ?_
    exact h0 c7
theorem ro_8 {S : BS} (hW : WF S) {n : Nat} {t : Nat → Nat} {i : Nat} (h : okB (roP S n t i).1 = true) (e : Nat) : (roP S n t i).2 e ≤ 8 := by
  rcases roP_ok h e with z | z
  · omega
  · have := hr_np hW z
    have := hW.np
    omega
def f_judge (S : BS) (n : Nat) (t : Nat → Nat) : Int32 × BS × Bool := (if S 1 0 0 = 0 then -3 else if okB (enS n (roP S n t (S 1 0 0)).1) = true then (if barI S (roP S n t (S 1 0 0)).2 = S 1 0 0 then jdV S (roP S n t (S 1 0 0)).2 else barV S (roP S n t (S 1 0 0)).2) else clV (nI 0) (enS n (roP S n t (S 1 0 0)).1), S, false)
theorem SF_judge (M : Mm) (S : BS) (n : Nat) (t : Nat → Nat) (Q : Po) (hB : BK M S) (hH : HM S) (hT : TPc n t M) (h : ∀ M', FxC M M' → BK M' (f_judge S n t).2.1 → M' 41 1 = (if (f_judge S n t).2.2 = true then nI n else nI 0) → Q M' (some (.int (f_judge S n t).1))) : Call 60 mF_judge [.ref 0] M Q := by
  have hw := hB.wf.nd
  unfold f_judge at h
  dsimp only at h
  refine Call_of (m := mF_judge) [some (.ref 0), none] rfl (fun G => Nat.le_of_ble_eq_true rfl) (fun G => rfl) ?_
  refine g_aload_n dX9_judge_0 rfl ?_
  refine g_call0 dX9_judge_1 clF_readsRoster ml_F_275 gc9 rfl rfl (by decide) (Nat.le_of_ble_eq_true rfl) ?_
  refine SF_readsRoster hB hT (fun z => ?_) (fun z M1 hE1 hT1 hv1 => ?_)
  · rw [if_pos z] at h
    refine g_if_ne_ff 10 dX9_judge_4 (by decide) ?_
    refine g_bipush ((-3)) dX9_judge_7 kb_m3 ?_
    refine g_ireturn dX9_judge_9 rfl (by first | rfl | exact nar_bI _) ?_
    refine h _ (FxC.of (L := [41]) (EqO.set (by decide)) (by decide)) (hB.off (fun k k1 k2 => mset_ne (by omega))) ?_
    rw [mset_at]; rfl
  · rw [if_neg z] at h
    refine g_if_ne_tt 10 dX9_judge_4 (by decide) ?_
    refine g_aload_n dX9_judge_10 rfl ?_
    refine g_getr (j := 6) dX9_judge_11 gc9 rfl (by decide) rfl (by decide) fl_F_49 ?_
    refine g_call0 dX9_judge_14 clT_isFaulty ml_F_145 gc7 rfl rfl (by decide) (Nat.le_of_ble_eq_true rfl) ?_
    refine ST_isFaulty hT1 ?_
    have hB1 : BK M1 S := hB.eqO hE1 (by decide)
    by_cases hok : okB (enS n (roP S n t (S 1 0 0)).1) = true
    · rw [if_pos hok] at h
      have hf8 := ro_8 hB.wf (ok_en hok).1
      have hv1 := hv1 hok
      generalize (roP S n t (S 1 0 0)).2 = f at h hf8 hv1
      rw [hok]
      refine g_if_eq_ff 25 dX9_judge_17 (by decide) ?_
      refine g_aload_n dX9_judge_25 rfl ?_
      refine g_getr (j := 6) dX9_judge_26 gc9 rfl (by decide) rfl (by decide) fl_F_49 ?_
      refine g_call0 dX9_judge_29 clT_wipe ml_F_158 gc7 rfl rfl (by decide) (Nat.le_of_ble_eq_true rfl) ?_
      refine ST_wipe ?_
      have hB2 : BK (mset M1 41 1 (nI 0)) S := hB1.off (fun k k1 k2 => mset_ne (by omega))
      have hf2 : ∀ e, e < S 1 0 0 → mset M1 41 1 (nI 0) 49 e = hv (f e) := fun e he => by rw [mset_ne (by decide)]; exact hv1 e he
      refine g_pop dX9_judge_32 rfl ?_
      refine g_aload_n dX9_judge_33 rfl ?_
      refine g_getr (j := 7) dX9_judge_34 gc9 rfl (by decide) rfl (by decide) fl_F_58 ?_
      refine g_call0 dX9_judge_37 clX_firstThatMayNotBe ml_F_278 gc8 rfl rfl (by decide) (Nat.le_of_ble_eq_true rfl) ?_
      refine SX_first hB2 hf2 hf8 ?_
      by_cases hb : barI S f = S 1 0 0
      · rw [if_pos hb] at h
        rw [barV, if_pos hb]
        refine g_ist2_1 dX9_judge_40 (by decide) rfl ?_
        refine g_iload_n dX9_judge_41 rfl ?_
        refine g_iconst ((-1)) dX9_judge_42 ki_m1 ?_
        refine g_icmp_eq 50 dX9_judge_43 (by decide) (fun c43 => ?_) (fun c43 => ?_)
        · refine g_aload_n dX9_judge_50 rfl ?_
          refine g_aload_n dX9_judge_51 rfl ?_
          refine g_getr (j := 7) dX9_judge_52 gc9 rfl (by decide) rfl (by decide) fl_F_58 ?_
          refine g_call0 dX9_judge_55 clX_planned ml_F_281 gc8 rfl rfl (by decide) (Nat.le_of_ble_eq_true rfl) ?_
          refine Call_of (m := mX_planned) [some (.ref 43)] rfl (fun G => Nat.le_of_ble_eq_true rfl) (fun G => rfl) ?_
          refine g_aload_n dX8_planned_0 rfl ?_
          refine g_getr (j := 7) dX8_planned_1 gc8 rfl (by decide) rfl (by decide) fl_X_27 ?_
          refine g_areturn dX8_planned_4 rfl (Or.inr ⟨_, rfl⟩) ?_
          refine g_call1 dX9_judge_58 clF_judgeLoads ml_F_285 gc9 rfl rfl (by decide) (Nat.le_of_ble_eq_true rfl) ?_
          refine SF_judgeLoads hB2 hf2 hf8 (fun M3 hE3 => ?_)
          refine g_ireturn dX9_judge_61 rfl (by first | rfl | exact nar_bI _) ?_
          refine h M3 (FxC.of (L := [28, 29, 41, 49]) ((hE1.sub (by decide)).tr ((EqO.set (by decide)).tr (hE3.sub (by decide)))) (by decide)) (hB2.eqO hE3 (by decide)) ?_
          rw [hE3 41 (by decide), mset_at]; rfl
        · exact absurd rfl c43
      · rw [if_neg hb] at h
        have hbl : barI S f ≤ S 1 0 0 := fstN_le _ _
        have hsd := sd_lt (S := S) (k := barI S f) (by omega)
        have hbe : barV S f = nI (sd S (barI S f)) := by rw [barV, if_neg hb]
        rw [hbe] at h ⊢
        refine g_ist2_1 dX9_judge_40 (by decide) rfl ?_
        refine g_iload_n dX9_judge_41 rfl ?_
        refine g_iconst ((-1)) dX9_judge_42 ki_m1 ?_
        refine g_icmp_eq 50 dX9_judge_43 (by decide) (fun c43 => ?_) (fun c43 => ?_)
        · exact absurd c43 (nI_m1 (by omega))
        · refine g_iload_n dX9_judge_46 rfl ?_
          refine g_goto 61 dX9_judge_47 (by decide) ?_
          refine g_ireturn dX9_judge_61 rfl (by first | rfl | exact nar_bI _) ?_
          refine h _ (FxC.of (L := [41, 49]) (hE1.tr (EqO.set (by decide))) (by decide)) hB2 ?_
          rw [mset_at]; rfl
    · have hok := Bool.eq_false_iff.mpr hok
      rw [if_neg (c := okB (enS n (roP S n t (S 1 0 0)).1) = true) (by rw [hok]; decide)] at h
      rw [hok]
      generalize enS n (roP S n t (S 1 0 0)).1 = q at hok hT1 h
      cases q with
      | inl a => cases hok
      | inr f =>
        refine g_if_eq_tt 25 dX9_judge_17 (by decide) ?_
        refine g_aload_n dX9_judge_20 rfl ?_
        refine g_call0 dX9_judge_21 clF_faultAnswer ml_F_149 gc9 rfl rfl (by decide) (Nat.le_of_ble_eq_true rfl) ?_
        refine SF_faultAnswer hT1 ?_
        refine g_ireturn dX9_judge_24 rfl (by first | rfl | exact nar_bI _) ?_
        refine h (mset M1 41 1 (nI 0)) (FxC.of (L := [41, 49]) (hE1.tr (EqO.set (by decide))) (by decide)) (hB1.off (fun k k1 k2 => mset_ne (by omega))) ?_
        rw [mset_at]; rfl
def f_roster (S : BS) (n : Nat) (t : Nat → Nat) : Int32 × BS × Bool := if S 1 0 0 = 0 then (-3, S, false) else if okB (enS n (roP S n t (S 1 0 0)).1) = true then (if barI S (roP S n t (S 1 0 0)).2 = S 1 0 0 then (nI (S 1 0 0 - heldAll (hoS S (roP S n t (S 1 0 0)).2 (S 1 0 0)) 8), hoS S (roP S n t (S 1 0 0)).2 (S 1 0 0), false) else (-7, S, false)) else (clV (nI 0) (enS n (roP S n t (S 1 0 0)).1), S, false)
theorem heldAll_le {S : BS} (hW : WF S) (q : Nat) : heldAll S q ≤ S 1 0 0 := by
  rw [heldAll_8 hW]
  exact cnt_le _ _
theorem SF_roster (M : Mm) (S : BS) (n : Nat) (t : Nat → Nat) (Q : Po) (hB : BK M S) (hH : HM S) (hT : TPc n t M) (h : ∀ M', FxC M M' → BK M' (f_roster S n t).2.1 → M' 41 1 = (if (f_roster S n t).2.2 = true then nI n else nI 0) → Q M' (some (.int (f_roster S n t).1))) : Call 60 mF_roster [.ref 0] M Q := by
  have hw := hB.wf.nd
  unfold f_roster at h
  refine Call_of (m := mF_roster) [some (.ref 0)] rfl (fun G => Nat.le_of_ble_eq_true rfl) (fun G => rfl) ?_
  refine g_aload_n dX9_roster_0 rfl ?_
  refine g_call0 dX9_roster_1 clF_readsRoster ml_F_275 gc9 rfl rfl (by decide) (Nat.le_of_ble_eq_true rfl) ?_
  refine SF_readsRoster hB hT (fun z => ?_) (fun z M1 hE1 hT1 hv1 => ?_)
  · rw [if_pos z] at h
    refine g_if_ne_ff 10 dX9_roster_4 (by decide) ?_
    refine g_bipush ((-3)) dX9_roster_7 kb_m3 ?_
    refine g_ireturn dX9_roster_9 rfl (by first | rfl | exact nar_bI _) ?_
    refine h _ (FxC.of (L := [41]) (EqO.set (by decide)) (by decide)) (hB.off (fun k k1 k2 => mset_ne (by omega))) ?_
    rw [mset_at]; rfl
  · rw [if_neg z] at h
    refine g_if_ne_tt 10 dX9_roster_4 (by decide) ?_
    refine g_aload_n dX9_roster_10 rfl ?_
    refine g_getr (j := 6) dX9_roster_11 gc9 rfl (by decide) rfl (by decide) fl_F_49 ?_
    refine g_call0 dX9_roster_14 clT_isFaulty ml_F_145 gc7 rfl rfl (by decide) (Nat.le_of_ble_eq_true rfl) ?_
    refine ST_isFaulty hT1 ?_
    have hB1 : BK M1 S := hB.eqO hE1 (by decide)
    by_cases hok : okB (enS n (roP S n t (S 1 0 0)).1) = true
    · rw [if_pos hok] at h
      have hf8 := ro_8 hB.wf (ok_en hok).1
      have hv1 := hv1 hok
      generalize (roP S n t (S 1 0 0)).2 = f at h hf8 hv1
      rw [hok]
      refine g_if_eq_ff 25 dX9_roster_17 (by decide) ?_
      refine g_aload_n dX9_roster_25 rfl ?_
      refine g_getr (j := 6) dX9_roster_26 gc9 rfl (by decide) rfl (by decide) fl_F_49 ?_
      refine g_call0 dX9_roster_29 clT_wipe ml_F_158 gc7 rfl rfl (by decide) (Nat.le_of_ble_eq_true rfl) ?_
      refine ST_wipe ?_
      have hB2 : BK (mset M1 41 1 (nI 0)) S := hB1.off (fun k k1 k2 => mset_ne (by omega))
      have hf2 : ∀ e, e < S 1 0 0 → mset M1 41 1 (nI 0) 49 e = hv (f e) := fun e he => by rw [mset_ne (by decide)]; exact hv1 e he
      refine g_pop dX9_roster_32 rfl ?_
      refine g_aload_n dX9_roster_33 rfl ?_
      refine g_getr (j := 7) dX9_roster_34 gc9 rfl (by decide) rfl (by decide) fl_F_58 ?_
      refine g_call0 dX9_roster_37 clX_firstThatMayNotBe ml_F_278 gc8 rfl rfl (by decide) (Nat.le_of_ble_eq_true rfl) ?_
      refine SX_first hB2 hf2 hf8 ?_
      by_cases hb : barI S f = S 1 0 0
      · rw [if_pos hb] at h
        dsimp only at h
        rw [barV, if_pos hb]
        refine g_iconst ((-1)) dX9_roster_40 ki_m1 ?_
        refine g_icmp_eq 47 dX9_roster_41 (by decide) (fun c41 => ?_) (fun c41 => ?_)
        · refine g_aload_n dX9_roster_47 rfl ?_
          refine g_getr (j := 7) dX9_roster_48 gc9 rfl (by decide) rfl (by decide) fl_F_58 ?_
          refine g_call0 dX9_roster_51 clX_holdAsPlanned ml_F_289 gc8 rfl rfl (by decide) (Nat.le_of_ble_eq_true rfl) ?_
          refine SX_holdAsPlanned hB2 hf2 hf8 (fun M3 hE3 hB3 => ?_)
          have e1 : hoS S f (S 1 0 0) 1 0 0 = S 1 0 0 := by rw [hoS_oth (by decide)]
          have hle := heldAll_le hB3.wf 8
          rw [e1] at hle
          refine g_aload_n dX9_roster_54 rfl ?_
          refine g_getr (j := 0) dX9_roster_55 gc9 rfl (by decide) rfl (by decide) fl_F_13 ?_
          refine g_geti (j := 1) dX9_roster_58 gc0 rfl (by decide) rfl (by decide) fl_F_164 ?_
          try simp (disch := omega) only [hB3.nd, e1]
          refine g_aload_n dX9_roster_61 rfl ?_
          refine g_getr (j := 0) dX9_roster_62 gc9 rfl (by decide) rfl (by decide) fl_F_13 ?_
          refine g_call0 dX9_roster_65 clB_countOpen ml_F_244 gc0 rfl rfl (by decide) (Nat.le_of_ble_eq_true rfl) ?_
          refine SB_countOpen hB3 ?_
          first | refine g_isub_n dX9_roster_68 (by omega) ?_ | refine g_isub dX9_roster_68 ?_
          refine g_ireturn dX9_roster_69 rfl (by first | rfl | exact nar_bI _) ?_
          refine h M3 (FxC.of (L := [2, 41, 49]) ((hE1.sub (by decide)).tr ((EqO.set (by decide)).tr (hE3.sub (by decide)))) (by decide)) hB3 ?_
          rw [hE3 41 (by decide), mset_at]; rfl
        · exact absurd rfl c41
      · rw [if_neg hb] at h
        dsimp only at h
        have hbl : barI S f ≤ S 1 0 0 := fstN_le _ _
        have hsd := sd_lt (S := S) (k := barI S f) (by omega)
        rw [barV, if_neg hb]
        refine g_iconst ((-1)) dX9_roster_40 ki_m1 ?_
        refine g_icmp_eq 47 dX9_roster_41 (by decide) (fun c41 => ?_) (fun c41 => ?_)
        · exact absurd c41 (nI_m1 (by omega))
        · refine g_bipush ((-7)) dX9_roster_44 kb_m7 ?_
          refine g_ireturn dX9_roster_46 rfl (by first | rfl | exact nar_bI _) ?_
          refine h _ (FxC.of (L := [41, 49]) (hE1.tr (EqO.set (by decide))) (by decide)) hB2 ?_
          rw [mset_at]; rfl
    · have hok := Bool.eq_false_iff.mpr hok
      rw [if_neg (by rw [hok]; decide)] at h
      rw [hok]
      generalize enS n (roP S n t (S 1 0 0)).1 = q at hok hT1 h
      cases q with
      | inl a => cases hok
      | inr f =>
        refine g_if_eq_tt 25 dX9_roster_17 (by decide) ?_
        refine g_aload_n dX9_roster_20 rfl ?_
        refine g_call0 dX9_roster_21 clF_faultAnswer ml_F_149 gc9 rfl rfl (by decide) (Nat.le_of_ble_eq_true rfl) ?_
        refine SF_faultAnswer hT1 ?_
        refine g_ireturn dX9_roster_24 rfl (by first | rfl | exact nar_bI _) ?_
        refine h (mset M1 41 1 (nI 0)) (FxC.of (L := [41, 49]) (hE1.tr (EqO.set (by decide))) (by decide)) (hB1.off (fun k k1 k2 => mset_ne (by omega))) ?_
        rw [mset_at]; rfl
