/-! judge, roster, both -/
theorem neg_l : ∀ f, f < 151 → -100 - nI f < 0 := by decide +kernel
theorem hoS_mk {w : Nat → Int32} {S : BS} (hM : MK w S) : MK w S := hM
theorem SM_read0 {d : Nat} {n : Nat} {t : Nat → Nat} {M : Mm} {S : BS} {Q : Po} (hM : MK (M 58) S) (hC : MC M) (hT : TPm n t M) (h : ∀ M' q, EqQ [62, 71] M M' → TM n t M' q → q = (roP S n t (S 1 0 0)).1 → (∀ j, j < S 1 0 0 → M' 62 j = nI (sd S j)) → (okB q = true → ∀ e, e < S 1 0 0 → M' 71 e = hv ((roP S n t (S 1 0 0)).2 e)) → Q M' none) : Call (d + 6) mM_readsRoster [.ref 57] M Q :=
  SM_readsRoster hM hC hT (fun M' hE hT2 h62 h71 => h M' _ hE hT2 rfl h62 h71)
theorem SM_judge (M : Mm) (S : BS) (n : Nat) (t : Nat → Nat) (Q : Po) (hM : MK (M 58) S) (hC : MC M) (hH : HM S) (hT : TPm n t M) (h : ∀ M', FxM M M' → MK (M' 58) (f_judge S n t).2.1 → M' 57 19 = (if (f_judge S n t).2.2 = true then nI n else nI 0) → Q M' (some (.int (f_judge S n t).1))) : Call 60 mM_judge [.ref 57] M Q := by
  have hw := hM.wf.nd
  unfold f_judge at h
  dsimp only at h
  refine Call_of (m := mM_judge) [some (.ref 57), none] rfl (fun G => Nat.le_of_ble_eq_true rfl) (fun G => rfl) ?_
  refine g_aload_n dX10_judge_0 rfl ?_
  refine g_getr (j := 0) dX10_judge_1 gc10 rfl (by decide) rfl (by decide) fl_M_9 ?_
  refine g_iconst (nI 2) dX10_judge_4 ki_2 ?_
  refine g_iald_n dX10_judge_5 (by first | rfl | assumption) (by first | decide | assumption) (by omega) (by omega) ?_
  try simp (disch := omega) only [hM.nd]
  refine g_if_ne_n 17 dX10_judge_6 (by decide) (by omega) (fun c6 => ?_) (fun c6 => ?_)
  · rw [if_neg c6] at h
    refine g_aload_n dX10_judge_17 rfl ?_
    refine g_call0 dX10_judge_18 clM_readsRoster ml_M_343 gc10 rfl rfl (by decide) (Nat.le_of_ble_eq_true rfl) ?_
    refine SM_read0 hM hC hT (fun M1 q hE1 hT1 hq h62 h71 => ?_)
    rw [← hq] at h
    refine g_aload_n dX10_judge_21 rfl ?_
    refine g_iconst (nI 0) dX10_judge_22 ki_0 ?_
    refine g_call1 dX10_judge_23 clM_closes ml_M_288 gc10 rfl rfl (by decide) (Nat.le_of_ble_eq_true rfl) ?_
    refine SM_closes _ hT1 (fun M2 hE2 h19 => ?_)
    have hX2 : EqX [58, 62, 66, 71, 72, 73] M M2 := ((EqX.ofQ hE1).sub (by decide)).tr (EqX.ofC hE2)
    have k58 : M2 58 = M 58 := by
      funext j
      rw [hE2 58 j (by omega), hE1 58 j (by decide) (by omega)]
    have hM2 : MK (M2 58) S := by rw [k58]; exact hM
    refine g_ist2_1 dX10_judge_26 (by decide) rfl ?_
    refine g_aload_n dX10_judge_27 rfl ?_
    refine g_call0 dX10_judge_28 clM_remembers ml_M_346 gc10 rfl rfl (by decide) (Nat.le_of_ble_eq_true rfl) ?_
    refine SM_remembers hM2 (fun M3 hE3 h72 => ?_)
    have hX3 : EqX [58, 62, 66, 71, 72, 73] M M3 := hX2.tr ((EqX.ofO hE3).sub (by decide))
    have hM3 : MK (M3 58) S := by rw [hE3 58 (by decide)]; exact hM2
    by_cases hok : okB (enS n q) = true
    · rw [if_pos hok] at h
      rw [cl_ok hok]
      have hf8 := ro_8 hM.wf (show okB (roP S n t (S 1 0 0)).1 = true by rw [← hq]; exact (ok_en hok).1)
      have h71 := h71 (ok_en hok).1
      generalize (roP S n t (S 1 0 0)).2 = f at h hf8 h71
      have g62 : ∀ j, j < S 1 0 0 → M3 62 j = nI (sd S j) := fun j hj => by rw [hE3 62 (by decide), hE2 62 j (by omega)]; exact h62 j hj
      have g71 : ∀ e, e < S 1 0 0 → M3 71 e = hv (f e) := fun e he => by rw [hE3 71 (by decide), hE2 71 e (by omega)]; exact h71 e he
      refine g_iload_n dX10_judge_31 rfl ?_
      refine g_if_ge_n 39 dX10_judge_32 (by decide) (by omega) ?_
      refine g_aload_n dX10_judge_39 rfl ?_
      refine g_call0 dX10_judge_40 clM_judged ml_M_349 gc10 rfl rfl (by decide) (Nat.le_of_ble_eq_true rfl) ?_
      refine SM_judged hM3 g62 g71 h72 hf8 (fun M4 hE4 hM4 => ?_)
      refine g_ireturn dX10_judge_43 rfl (by first | rfl | exact nar_bI _) ?_
      refine h M4 (FxM.ofX (hX3.tr ((EqX.ofQ hE4).sub (by decide))) (by decide)) hM4 ?_
      rw [hE4 57 19 (by decide) (by omega), hE3 57 (by decide), h19]
      rfl
    · have hok := Bool.eq_false_iff.mpr hok
      rw [if_neg (c := okB (enS n q) = true) (by rw [hok]; decide)] at h
      obtain ⟨f, hf, hf2⟩ := en_bad hT1 hok
      have hneg := neg_l f hf2
      rw [hf] at h ⊢
      rw [show clV (nI 0) (.inr f) = -100 - nI f from rfl] at h ⊢
      generalize -100 - nI f = w0 at h hneg ⊢
      refine g_iload_n dX10_judge_31 rfl ?_
      refine g_if_ge 39 dX10_judge_32 (by decide) (fun c32 => ?_) (fun c32 => ?_)
      · exact absurd hneg (Int32.not_lt.mpr c32)
      · refine g_iload_n dX10_judge_35 rfl ?_
        refine g_goto 43 dX10_judge_36 (by decide) ?_
        refine g_ireturn dX10_judge_43 rfl (by first | rfl | exact nar_bI _) ?_
        refine h M3 (FxM.ofX hX3 (by decide)) hM3 ?_
        rw [hE3 57 (by decide), h19]
        rfl
  · rw [if_pos c6] at h
    refine g_aload_n dX10_judge_9 rfl ?_
    refine g_iconst (nI 0) dX10_judge_10 ki_0 ?_
    refine g_puti (j := 19) dX10_judge_11 gc10 rfl (by decide) rfl (by decide) fl_M_245 rfl (tyX10_ok 19 (by decide)) (by first | rfl | exact nar_bI _) rfl ?_
    refine g_bipush ((-3)) dX10_judge_14 kb_m3 ?_
    refine g_ireturn dX10_judge_16 rfl (by first | rfl | exact nar_bI _) ?_
    refine h _ (FxM.ofX (L := []) (fun k j _ hj => mset_off (fun z => by have := hj z.1; omega)) (by decide)) (by rw [mset_ne (by decide)]; exact hM) ?_
    rw [mset_at]
    rfl
theorem both_judge : Both mF_judge mM_judge [] := both_text f_judge (fun M S n t Q => SF_judge M S n t Q) (fun M S n t Q => SM_judge M S n t Q) (fun S n t hn ht hW hH => hH)
theorem SM_roster (M : Mm) (S : BS) (n : Nat) (t : Nat → Nat) (Q : Po) (hM : MK (M 58) S) (hC : MC M) (hH : HM S) (hT : TPm n t M) (h : ∀ M', FxM M M' → MK (M' 58) (f_roster S n t).2.1 → M' 57 19 = (if (f_roster S n t).2.2 = true then nI n else nI 0) → Q M' (some (.int (f_roster S n t).1))) : Call 60 mM_roster [.ref 57] M Q := by
  have hw := hM.wf.nd
  unfold f_roster at h
  refine Call_of (m := mM_roster) [some (.ref 57), none] rfl (fun G => Nat.le_of_ble_eq_true rfl) (fun G => rfl) ?_
  refine g_aload_n dX10_roster_0 rfl ?_
  refine g_getr (j := 0) dX10_roster_1 gc10 rfl (by decide) rfl (by decide) fl_M_9 ?_
  refine g_iconst (nI 2) dX10_roster_4 ki_2 ?_
  refine g_iald_n dX10_roster_5 (by first | rfl | assumption) (by first | decide | assumption) (by omega) (by omega) ?_
  try simp (disch := omega) only [hM.nd]
  refine g_if_ne_n 17 dX10_roster_6 (by decide) (by omega) (fun c6 => ?_) (fun c6 => ?_)
  · rw [if_neg c6] at h
    refine g_aload_n dX10_roster_17 rfl ?_
    refine g_call0 dX10_roster_18 clM_readsRoster ml_M_343 gc10 rfl rfl (by decide) (Nat.le_of_ble_eq_true rfl) ?_
    refine SM_read0 hM hC hT (fun M1 q hE1 hT1 hq h62 h71 => ?_)
    rw [← hq] at h
    refine g_aload_n dX10_roster_21 rfl ?_
    refine g_iconst (nI 0) dX10_roster_22 ki_0 ?_
    refine g_call1 dX10_roster_23 clM_closes ml_M_288 gc10 rfl rfl (by decide) (Nat.le_of_ble_eq_true rfl) ?_
    refine SM_closes _ hT1 (fun M2 hE2 h19 => ?_)
    have hX2 : EqX [58, 62, 71] M M2 := ((EqX.ofQ hE1).sub (by decide)).tr (EqX.ofC hE2)
    have k58 : M2 58 = M 58 := by
      funext j
      rw [hE2 58 j (by omega), hE1 58 j (by decide) (by omega)]
    have hM2 : MK (M2 58) S := by rw [k58]; exact hM
    by_cases hok : okB (enS n q) = true
    · rw [if_pos hok] at h
      rw [cl_ok hok]
      have hf8 := ro_8 hM.wf (show okB (roP S n t (S 1 0 0)).1 = true by rw [← hq]; exact (ok_en hok).1)
      have h71 := h71 (ok_en hok).1
      generalize (roP S n t (S 1 0 0)).2 = f at h hf8 h71
      have g62 : ∀ j, j < S 1 0 0 → M2 62 j = nI (sd S j) := fun j hj => by rw [hE2 62 j (by omega)]; exact h62 j hj
      have g71 : ∀ e, e < S 1 0 0 → M2 71 e = hv (f e) := fun e he => by rw [hE2 71 e (by omega)]; exact h71 e he
      refine g_ist2_1 dX10_roster_26 (by decide) rfl ?_
      refine g_iload_n dX10_roster_27 rfl ?_
      refine g_if_lt_n 38 dX10_roster_28 (by decide) (by omega) ?_
      refine g_aload_n dX10_roster_31 rfl ?_
      refine g_call0 dX10_roster_32 clM_firstBarred ml_M_334 gc10 rfl rfl (by decide) (Nat.le_of_ble_eq_true rfl) ?_
      refine SM_firstBarred hM2 g62 g71 hf8 ?_
      by_cases hb : barI S f = S 1 0 0
      · rw [if_pos hb] at h
        dsimp only at h
        rw [barV, if_pos hb]
        refine g_if_lt 49 dX10_roster_35 (by decide) (fun c35 => ?_) (fun c35 => ?_)
        · refine g_aload_n dX10_roster_49 rfl ?_
          refine g_aload_n dX10_roster_50 rfl ?_
          refine g_getr (j := 27) dX10_roster_51 gc10 rfl (by decide) rfl (by decide) fl_M_50 ?_
          refine g_call1 dX10_roster_54 clM_becomes ml_M_330 gc10 rfl rfl (by decide) (Nat.le_of_ble_eq_true rfl) ?_
          refine SM_becomes_71 hM2 g71 hf8 (fun M3 hE3 hM3 => ?_)
          have e1 : hoS S f (S 1 0 0) 1 0 0 = S 1 0 0 := by rw [hoS_oth (by decide)]
          have hle := heldAll_le hM3.wf 8
          rw [e1] at hle
          refine g_aload_n dX10_roster_57 rfl ?_
          refine g_getr (j := 0) dX10_roster_58 gc10 rfl (by decide) rfl (by decide) fl_M_9 ?_
          refine g_iconst (nI 2) dX10_roster_61 ki_2 ?_
          refine g_iald_n dX10_roster_62 (by first | rfl | assumption) (by first | decide | assumption) (by omega) (by omega) ?_
          try simp (disch := omega) only [hM3.nd, e1]
          refine g_aload_n dX10_roster_63 rfl ?_
          refine g_call0 dX10_roster_64 clM_openMany ml_M_228 gc10 rfl rfl (by decide) (Nat.le_of_ble_eq_true rfl) ?_
          refine SM_openMany hM3 ?_
          first | refine g_isub_n dX10_roster_67 (by omega) ?_ | refine g_isub dX10_roster_67 ?_
          refine g_ireturn dX10_roster_68 rfl (by first | rfl | exact nar_bI _) ?_
          refine h M3 (FxM.ofX (hX2.tr ((EqX.ofO hE3).sub (L' := [58, 62, 71]) (by decide))) (by decide)) hM3 ?_
          rw [hE3 57 (by decide), h19]
          rfl
        · exact absurd (show (-1 : Int32) < 0 from by decide) c35
      · rw [if_neg hb] at h
        dsimp only at h
        have hbl : barI S f ≤ S 1 0 0 := fstN_le _ _
        have hsd := sd_lt (S := S) (k := barI S f) (by omega)
        rw [barV, if_neg hb]
        refine g_if_lt_n 49 dX10_roster_35 (by decide) (by omega) ?_
        refine g_iload_n dX10_roster_38 rfl ?_
        refine g_if_ge_n 46 dX10_roster_39 (by decide) (by omega) ?_
        refine g_bipush ((-7)) dX10_roster_46 kb_m7 ?_
        refine g_ireturn dX10_roster_48 rfl (by first | rfl | exact nar_bI _) ?_
        refine h M2 (FxM.ofX hX2 (by decide)) hM2 ?_
        rw [h19]
        rfl
    · have hok := Bool.eq_false_iff.mpr hok
      rw [if_neg (c := okB (enS n q) = true) (by rw [hok]; decide)] at h
      dsimp only at h
      obtain ⟨f, hf, hf2⟩ := en_bad hT1 hok
      have hneg := neg_l f hf2
      rw [hf] at h ⊢
      rw [show clV (nI 0) (.inr f) = -100 - nI f from rfl] at h ⊢
      generalize -100 - nI f = w0 at h hneg ⊢
      refine g_ist2_1 dX10_roster_26 (by decide) rfl ?_
      refine g_iload_n dX10_roster_27 rfl ?_
      refine g_if_lt 38 dX10_roster_28 (by decide) (fun c28 => ?_) (fun c28 => ?_)
      · refine g_iload_n dX10_roster_38 rfl ?_
        refine g_if_ge 46 dX10_roster_39 (by decide) (fun c39 => ?_) (fun c39 => ?_)
        · exact absurd hneg (Int32.not_lt.mpr c39)
        · refine g_iload_n dX10_roster_42 rfl ?_
          refine g_goto 48 dX10_roster_43 (by decide) ?_
          refine g_ireturn dX10_roster_48 rfl (by first | rfl | exact nar_bI _) ?_
          refine h M2 (FxM.ofX hX2 (by decide)) hM2 ?_
          rw [h19]
          rfl
      · exact absurd hneg c28
  · rw [if_pos c6] at h
    dsimp only at h
    refine g_aload_n dX10_roster_9 rfl ?_
    refine g_iconst (nI 0) dX10_roster_10 ki_0 ?_
    refine g_puti (j := 19) dX10_roster_11 gc10 rfl (by decide) rfl (by decide) fl_M_245 rfl (tyX10_ok 19 (by decide)) (by first | rfl | exact nar_bI _) rfl ?_
    refine g_bipush ((-3)) dX10_roster_14 kb_m3 ?_
    refine g_ireturn dX10_roster_16 rfl (by first | rfl | exact nar_bI _) ?_
    refine h _ (FxM.ofX (L := []) (fun k j _ hj => mset_off (fun z => by have := hj z.1; omega)) (by decide)) (by rw [mset_ne (by decide)]; exact hM) ?_
    rw [mset_at]
    rfl
theorem bar_none {S : BS} {f : Nat → Nat} (h : barI S f = S 1 0 0) {i : Nat} (hi : i < S 1 0 0) : barB S f i = false := by
  have key : ∀ n, fstN (barB S f) n = n → ∀ i, i < n → barB S f i = false := by
    intro n
    induction n with
    | zero => exact fun _ i hi => absurd hi (by omega)
    | succ n ih =>
      intro hn i hi
      have hle := fstN_le (barB S f) n
      rw [fstN] at hn
      split at hn
      · omega
      · rename_i z
        split at hn
        · omega
        · rename_i y
          by_cases e : i = n
          · rw [e]; exact Bool.eq_false_iff.mpr y
          · exact ih (by omega) i (by omega)
  exact key _ h i hi
theorem both_roster : Both mF_roster mM_roster [] := both_text f_roster (fun M S n t Q => SF_roster M S n t Q) (fun M S n t Q => SM_roster M S n t Q) (fun S n t hn ht hW hH => by
  unfold f_roster
  by_cases h0 : S 1 0 0 = 0
  · rw [if_pos h0]; exact hH
  · rw [if_neg h0]
    by_cases hok : okB (enS n (roP S n t (S 1 0 0)).1) = true
    · rw [if_pos hok]
      generalize (roP S n t (S 1 0 0)).2 = f
      by_cases hb : barI S f = S 1 0 0
      · rw [if_pos hb]
        intro d hd h8
        dsimp only at hd h8 ⊢
        rw [hoS_oth (by decide)] at hd
        rw [hoS_ho hd] at h8 ⊢
        rw [may_ho (fun a ha => hoS_oth ha)]
        obtain ⟨i, hi, e⟩ := sd_onto hd
        have hn := bar_none hb hi
        unfold barB at hn
        rw [e] at hn
        cases hm : mayB S (f d) d with
        | true => rfl
        | false =>
          rw [hm] at hn
          have h9 : ¬ f d = 8 := by omega
          simp [h9] at hn
      · rw [if_neg hb]; exact hH
    · rw [if_neg hok]; exact hH)
