/-! audit -/
theorem SL_make2 {d : Nat} {M : Mm} {S : BS} {Q : Po} (hB : BK M S) {k : Nat} (hk : k < 4) (h : ∀ M', EqO [28] M M' → (∀ j, j < cnt (hr S) (S 0 0 0) → M' 28 j = nI (vecV S (hoF S) k (S 0 0 0) j)) → Q M' (some (.int (nI (cnt (hr S) (S 0 0 0)))))) : Call (d + 4) mL_makeVector [.ref 27, .ref 28, .ref 2, .int (nI k)] M Q :=
  SL_make_28 hB (hoF S) (fun j hj => hB.ho hj) (fun j hj => (hB.wf.dk (by have := hB.wf.nd; omega)).2.2) hk h
theorem dif_two {a b : Nat} (ha : a ≤ 1025) (hb : b ≤ 1025) : (nI a - nI b < nI 2 ↔ ¬ b + 2 ≤ a) ∧ (nI a - nI b ≤ nI 1 ↔ ¬ b + 2 ≤ a) := by
  have h3 : (nI a - nI b).toInt = (a : Int) - (b : Int) := by
    rw [Int32.toInt_sub, nI_toInt (by omega), nI_toInt (by omega), Int.bmod_def]
    split <;> omega
  rw [Int32.lt_iff_toInt_lt, Int32.le_iff_toInt_le, h3, nI_toInt (by omega), nI_toInt (by omega)]
  constructor <;> omega
def enN (v : Nat → Nat) (i n : Nat) : Nat := cnt (fun j => decide (i < j) && decide (v j + 2 ≤ v i)) n
theorem enN_0 (v : Nat → Nat) (i : Nat) : ∀ {n : Nat}, n ≤ i + 1 → enN v i n = 0
  | 0, _ => rfl
  | n + 1, h => by
    unfold enN
    rw [cnt_f (by rw [decide_eq_false (by omega)]; rfl)]
    exact enN_0 v i (by omega)
theorem enN_t {v : Nat → Nat} {i j : Nat} (h : i < j) (hc : v j + 2 ≤ v i) : enN v i (j + 1) = enN v i j + 1 := cnt_t (by rw [decide_eq_true h, decide_eq_true hc]; rfl)
theorem enN_f {v : Nat → Nat} {i j : Nat} (hc : ¬ v j + 2 ≤ v i) : enN v i (j + 1) = enN v i j := cnt_f (by rw [decide_eq_false hc, Bool.and_false])
theorem enN_le (v : Nat → Nat) (i n : Nat) : enN v i n ≤ n := cnt_le _ _
def sprI (v : Nat → Nat) (n : Nat) : Int32 := if n = 0 then 0 else nI (v 0) - nI (v (n - 1))
theorem SL_spread {d : Nat} {M : Mm} {S : BS} {Q : Po} (hB : BK M S) {k : Nat} (hk : k < 4) (h : ∀ M', EqO [28] M M' → Q M' (some (.int (sprI (vecV S (hoF S) k (S 0 0 0)) (cnt (hr S) (S 0 0 0)))))) : Call (d + 5) mL_spread [.ref 27, .int (nI k)] M Q := by
  have hw := hB.wf.np
  have hcl := cnt_le (hr S) (S 0 0 0)
  unfold sprI at h
  refine Call_of (m := mL_spread) [some (.ref 27), some (.int (nI k)), none] rfl (fun G => Nat.le_of_ble_eq_true rfl) (fun G => rfl) ?_
  refine g_aload_n dX2_spread_0 rfl ?_
  refine g_aload_n dX2_spread_1 rfl ?_
  refine g_getr (j := 1) dX2_spread_2 gc2 rfl (by decide) rfl (by decide) fl_L_9 ?_
  refine g_aload_n dX2_spread_5 rfl ?_
  refine g_getr (j := 0) dX2_spread_6 gc2 rfl (by decide) rfl (by decide) fl_L_21 ?_
  refine g_getr (j := 3) dX2_spread_9 gc0 rfl (by decide) rfl (by decide) fl_L_25 ?_
  refine g_iload_n dX2_spread_12 rfl ?_
  refine g_call3 dX2_spread_13 clL_makeVector ml_L_30 gc2 rfl rfl (by decide) (Nat.le_of_ble_eq_true rfl) ?_
  refine SL_make2 hB hk (fun M' hE hv => ?_)
  have h := h M' hE
  refine g_ist3_2 dX2_spread_16 (by decide) rfl ?_
  refine g_iload_n dX2_spread_17 rfl ?_
  refine g_if_le_n 48 dX2_spread_18 (by decide) (by omega) (fun c18 => ?_) (fun c18 => ?_)
  · rw [if_pos c18] at h
    refine g_iconst (nI 0) dX2_spread_48 ki_0 ?_
    refine g_ireturn dX2_spread_49 rfl (by first | rfl | exact nar_bI _) ?_
    exact h
  · rw [if_neg c18] at h
    refine g_iload_n dX2_spread_21 rfl ?_
    refine g_aload_n dX2_spread_22 rfl ?_
    refine g_getr (j := 1) dX2_spread_23 gc2 rfl (by decide) rfl (by decide) fl_L_9 ?_
    refine g_alen dX2_spread_26 (by first | rfl | assumption) (by first | decide | assumption) ?_
    refine g_icmp_gt_n 48 dX2_spread_27 (by decide) (by omega) (by omega) (fun c27 => ?_) (fun c27 => ?_)
    · exact absurd hcl (by omega)
    · refine g_aload_n dX2_spread_30 rfl ?_
      refine g_getr (j := 1) dX2_spread_31 gc2 rfl (by decide) rfl (by decide) fl_L_9 ?_
      refine g_iconst (nI 0) dX2_spread_34 ki_0 ?_
      refine g_iald_n dX2_spread_35 (by first | rfl | assumption) (by first | decide | assumption) (by omega) (by omega) ?_
      try simp (disch := omega) only [hv]
      refine g_aload_n dX2_spread_36 rfl ?_
      refine g_getr (j := 1) dX2_spread_37 gc2 rfl (by decide) rfl (by decide) fl_L_9 ?_
      refine g_iload_n dX2_spread_40 rfl ?_
      refine g_iconst (nI 1) dX2_spread_41 ki_1 ?_
      first | refine g_isub_n dX2_spread_42 (by omega) ?_ | refine g_isub dX2_spread_42 ?_
      refine g_iald_n dX2_spread_43 (by first | rfl | assumption) (by first | decide | assumption) (by omega) (by omega) ?_
      try simp (disch := omega) only [hv]
      first | refine g_isub_n dX2_spread_44 (by omega) ?_ | refine g_isub dX2_spread_44 ?_
      refine g_goto 49 dX2_spread_45 (by decide) ?_
      refine g_ireturn dX2_spread_49 rfl (by first | rfl | exact nar_bI _) ?_
      exact h
theorem SL_sum {d : Nat} {M : Mm} {S : BS} {Q : Po} (hB : BK M S) {k : Nat} (hk : k < 4) (h : ∀ M', EqO [28] M M' → Q M' (some (.int (nI (sumN (vecV S (hoF S) k (S 0 0 0)) (cnt (hr S) (S 0 0 0))))))) : Call (d + 5) mL_sum [.ref 27, .int (nI k)] M Q := by
  have hw := hB.wf.np
  have hcl := cnt_le (hr S) (S 0 0 0)
  have hvl := vecV_le hB.wf (hoF S) hk (n := S 0 0 0) (Nat.le_refl _)
  refine Call_of (m := mL_sum) [some (.ref 27), some (.int (nI k)), none, none, none] rfl (fun G => Nat.le_of_ble_eq_true rfl) (fun G => rfl) ?_
  refine g_aload_n dX2_sum_0 rfl ?_
  refine g_aload_n dX2_sum_1 rfl ?_
  refine g_getr (j := 1) dX2_sum_2 gc2 rfl (by decide) rfl (by decide) fl_L_9 ?_
  refine g_aload_n dX2_sum_5 rfl ?_
  refine g_getr (j := 0) dX2_sum_6 gc2 rfl (by decide) rfl (by decide) fl_L_21 ?_
  refine g_getr (j := 3) dX2_sum_9 gc0 rfl (by decide) rfl (by decide) fl_L_25 ?_
  refine g_iload_n dX2_sum_12 rfl ?_
  refine g_call3 dX2_sum_13 clL_makeVector ml_L_30 gc2 rfl rfl (by decide) (Nat.le_of_ble_eq_true rfl) ?_
  refine SL_make2 hB hk (fun M' hE hv => ?_)
  have h := h M' hE
  generalize vecV S (hoF S) k (S 0 0 0) = v at hv h hvl
  generalize cnt (hr S) (S 0 0 0) = n at hv h hvl hcl ⊢
  refine g_ist5_2 dX2_sum_16 (by decide) rfl ?_
  refine g_iconst (nI 0) dX2_sum_17 ki_0 ?_
  refine g_ist5_3 dX2_sum_18 (by decide) rfl ?_
  refine g_iconst (nI 0) dX2_sum_19 ki_0 ?_
  refine g_ist5_4 dX2_sum_20 (by decide) rfl ?_
  refine loop_up (P := fun i => Go mL_sum (d + 5) Q 22 [some (.ref 27), some (.int (nI k)), some (.int (nI n)), some (.int (nI (sumN v i))), some (.int (nI i))] [] M') n ?_ 0 (Nat.zero_le _)
  intro i hi ih
  refine g_iload dX2_sum_22 rfl ?_
  refine g_iload_n dX2_sum_24 rfl ?_
  refine g_icmp_ge_n 51 dX2_sum_25 (by decide) (by omega) (by omega) (fun c25 => ?_) (fun c25 => ?_)
  · refine g_iload_n dX2_sum_51 rfl ?_
    refine g_ireturn dX2_sum_52 rfl (by first | rfl | exact nar_bI _) ?_
    rw [show i = n by omega]; exact h
  · refine g_iload dX2_sum_28 rfl ?_
    refine g_bipush (nI 8) dX2_sum_30 kb_8 ?_
    refine g_icmp_ge_n 51 dX2_sum_32 (by decide) (by omega) (by omega) (fun c32 => ?_) (fun c32 => ?_)
    · exact absurd hcl (by omega)
    · have hs := sumN_bd (f := v) (c := 1025) (n := i) (fun x hx => hvl x (by omega))
      have hs2 := hvl i (by omega)
      refine g_iload_n dX2_sum_35 rfl ?_
      refine g_aload_n dX2_sum_36 rfl ?_
      refine g_getr (j := 1) dX2_sum_37 gc2 rfl (by decide) rfl (by decide) fl_L_9 ?_
      refine g_iload dX2_sum_40 rfl ?_
      refine g_iald_n dX2_sum_42 (by first | rfl | assumption) (by first | decide | assumption) (by omega) (by omega) ?_
      try simp (disch := omega) only [hv]
      first | refine g_iadd_n dX2_sum_43 ?_ | refine g_iadd dX2_sum_43 ?_
      refine g_ist5_3 dX2_sum_44 (by decide) rfl ?_
      first | refine g_incn5_4 dX2_sum_45 ki_1 (by decide) rfl ?_ | refine g_incg5_4 (nI 1) dX2_sum_45 ki_1 (by decide) rfl ?_
      refine g_goto 22 dX2_sum_48 (by decide) ?_
      exact ih (by omega)
theorem SL_envy {d : Nat} {M : Mm} {S : BS} {Q : Po} (hB : BK M S) {k : Nat} (hk : k < 4) (h : ∀ M', EqO [28] M M' → Q M' (some (.int (nI (sumN (fun i => enN (vecV S (hoF S) k (S 0 0 0)) i (cnt (hr S) (S 0 0 0))) (cnt (hr S) (S 0 0 0))))))) : Call (d + 5) mL_envy [.ref 27, .int (nI k)] M Q := by
  have hw := hB.wf.np
  have hcl := cnt_le (hr S) (S 0 0 0)
  have hvl := vecV_le hB.wf (hoF S) hk (n := S 0 0 0) (Nat.le_refl _)
  refine Call_of (m := mL_envy) [some (.ref 27), some (.int (nI k)), none, none, none, none] rfl (fun G => Nat.le_of_ble_eq_true rfl) (fun G => rfl) ?_
  refine g_aload_n dX2_envy_0 rfl ?_
  refine g_aload_n dX2_envy_1 rfl ?_
  refine g_getr (j := 1) dX2_envy_2 gc2 rfl (by decide) rfl (by decide) fl_L_9 ?_
  refine g_aload_n dX2_envy_5 rfl ?_
  refine g_getr (j := 0) dX2_envy_6 gc2 rfl (by decide) rfl (by decide) fl_L_21 ?_
  refine g_getr (j := 3) dX2_envy_9 gc0 rfl (by decide) rfl (by decide) fl_L_25 ?_
  refine g_iload_n dX2_envy_12 rfl ?_
  refine g_call3 dX2_envy_13 clL_makeVector ml_L_30 gc2 rfl rfl (by decide) (Nat.le_of_ble_eq_true rfl) ?_
  refine SL_make2 hB hk (fun M' hE hv => ?_)
  have h := h M' hE
  generalize vecV S (hoF S) k (S 0 0 0) = v at hv h hvl
  generalize cnt (hr S) (S 0 0 0) = n at hv h hvl hcl ⊢
  refine g_ist6_2 dX2_envy_16 (by decide) rfl ?_
  refine g_iconst (nI 0) dX2_envy_17 ki_0 ?_
  refine g_ist6_3 dX2_envy_18 (by decide) rfl ?_
  refine g_iconst (nI 0) dX2_envy_19 ki_0 ?_
  refine g_ist6_4 dX2_envy_20 (by decide) rfl ?_
  refine loop_up (P := fun i => Go mL_envy (d + 5) Q 22 [some (.ref 27), some (.int (nI k)), some (.int (nI n)), some (.int (nI (sumN (fun i => enN v i n) i))), some (.int (nI i)), none] [] M') n ?_ 0 (Nat.zero_le _)
  intro i hi ih
  refine g_iload dX2_envy_22 rfl ?_
  refine g_iload_n dX2_envy_24 rfl ?_
  refine g_icmp_ge_n 88 dX2_envy_25 (by decide) (by omega) (by omega) (fun c25 => ?_) (fun c25 => ?_)
  · refine g_iload_n dX2_envy_88 rfl ?_
    refine g_ireturn dX2_envy_89 rfl (by first | rfl | exact nar_bI _) ?_
    rw [show i = n by omega]; exact h
  · refine g_iload dX2_envy_28 rfl ?_
    refine g_bipush (nI 8) dX2_envy_30 kb_8 ?_
    refine g_icmp_ge_n 88 dX2_envy_32 (by decide) (by omega) (by omega) (fun c32 => ?_) (fun c32 => ?_)
    · exact absurd hcl (by omega)
    · have ih := ih (by omega)
      rw [sumN] at ih
      have hs := sumN_bd (f := fun i => enN v i n) (c := 8) (n := i) (fun x hx => Nat.le_trans (enN_le v x n) (by omega))
      refine g_iload dX2_envy_35 rfl ?_
      refine g_iconst (nI 1) dX2_envy_37 ki_1 ?_
      first | refine g_iadd_n dX2_envy_38 ?_ | refine g_iadd dX2_envy_38 ?_
      refine g_ist6_5 dX2_envy_39 (by decide) rfl ?_
      suffices hin : ∀ j, j ≤ n → i + 1 ≤ j → Go mL_envy (d + 5) Q 41 [some (.ref 27), some (.int (nI k)), some (.int (nI n)), some (.int (nI (sumN (fun i => enN v i n) i + enN v i j))), some (.int (nI i)), some (.int (nI j))] [] M' by
        have := hin (i + 1) (by omega) (Nat.le_refl _)
        rw [enN_0 v i (Nat.le_refl (i + 1)), Nat.add_zero] at this
        exact this
      refine loop_up (P := fun j => i + 1 ≤ j → Go mL_envy (d + 5) Q 41 [some (.ref 27), some (.int (nI k)), some (.int (nI n)), some (.int (nI (sumN (fun i => enN v i n) i + enN v i j))), some (.int (nI i)), some (.int (nI j))] [] M') n ?_
      intro j hj jh hij
      have hs2 := enN_le v i j
      refine g_iload dX2_envy_41 rfl ?_
      refine g_iload_n dX2_envy_43 rfl ?_
      refine g_icmp_ge_n 82 dX2_envy_44 (by decide) (by omega) (by omega) (fun c44 => ?_) (fun c44 => ?_)
      · first | refine g_incn6_4 dX2_envy_82 ki_1 (by decide) rfl ?_ | refine g_incg6_4 (nI 1) dX2_envy_82 ki_1 (by decide) rfl ?_
        refine g_goto 22 dX2_envy_85 (by decide) ?_
        refine Go_sub [some (.ref 27), some (.int (nI k)), some (.int (nI n)), some (.int (nI (sumN (fun i => enN v i n) i + enN v i j))), some (.int (nI (i + 1))), none] (by simp [subL]) ?_
        rw [show j = n by omega]
        exact ih
      · have jh := jh (by omega) (by omega)
        have b1 := hvl i (by omega)
        have b2 := hvl j (by omega)
        clear ih
        refine g_iload dX2_envy_47 rfl ?_
        refine g_bipush (nI 8) dX2_envy_49 kb_8 ?_
        refine g_icmp_ge_n 82 dX2_envy_51 (by decide) (by omega) (by omega) (fun c51 => ?_) (fun c51 => ?_)
        · exact absurd hcl (by omega)
        · skip
          refine g_aload_n dX2_envy_54 rfl ?_
          refine g_getr (j := 1) dX2_envy_55 gc2 rfl (by decide) rfl (by decide) fl_L_9 ?_
          refine g_iload dX2_envy_58 rfl ?_
          refine g_iald_n dX2_envy_60 (by first | rfl | assumption) (by first | decide | assumption) (by omega) (by omega) ?_
          try simp (disch := omega) only [hv]
          refine g_aload_n dX2_envy_61 rfl ?_
          refine g_getr (j := 1) dX2_envy_62 gc2 rfl (by decide) rfl (by decide) fl_L_9 ?_
          refine g_iload dX2_envy_65 rfl ?_
          refine g_iald_n dX2_envy_67 (by first | rfl | assumption) (by first | decide | assumption) (by omega) (by omega) ?_
          try simp (disch := omega) only [hv]
          refine g_isub dX2_envy_68 ?_
          refine g_iconst (nI 2) dX2_envy_69 ki_2 ?_
          refine g_icmp_lt 76 dX2_envy_70 (by decide) (fun c70 => ?_) (fun c70 => ?_)
          · rw [(dif_two b1 b2).1] at c70
            rw [enN_f c70] at jh
            first | refine g_incn6_5 dX2_envy_76 ki_1 (by decide) rfl ?_ | refine g_incg6_5 (nI 1) dX2_envy_76 ki_1 (by decide) rfl ?_
            refine g_goto 41 dX2_envy_79 (by decide) ?_
            exact jh
          · rw [(dif_two b1 b2).1] at c70
            rw [enN_t (by omega) (by omega)] at jh
            first | refine g_incn6_3 dX2_envy_73 ki_1 (by decide) rfl ?_ | refine g_incg6_3 (nI 1) dX2_envy_73 ki_1 (by decide) rfl ?_
            first | refine g_incn6_5 dX2_envy_76 ki_1 (by decide) rfl ?_ | refine g_incg6_5 (nI 1) dX2_envy_76 ki_1 (by decide) rfl ?_
            refine g_goto 41 dX2_envy_79 (by decide) ?_
            exact jh
