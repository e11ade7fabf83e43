/-! lay -/
def layR (S : BS) (f : Nat → Int32) (b k : Nat) : Nat → Int32 := fun j => if b ≤ j ∧ j < b + k then hv (S 12 (sd S (j - b)) 0) else f j
theorem layR_0 (S : BS) (f : Nat → Int32) (b : Nat) : layR S f b 0 = f := by
  funext j
  unfold layR
  rw [if_neg (by omega)]
theorem layR_step {S : BS} {f : Nat → Int32} {b n k : Nat} (hk : k = b + n) : upd (layR S f b n) k (hv (S 12 (sd S n) 0)) = layR S f b (n + 1) := by
  funext j
  by_cases e : j = k
  · subst e; rw [upd_at]; unfold layR; rw [if_pos (by omega), show j - b = n by omega]
  · rw [upd_off e]
    unfold layR
    by_cases z : b ≤ j ∧ j < b + n
    · rw [if_pos z, if_pos (by omega)]
    · rw [if_neg z, if_neg (by omega)]
theorem SF_layL {l : Nat} (x : Int32) (M : Mm) (S : BS) (Q : Po) (hB : BK M S) (hl : l < 4) (hs : szO (M 56 l)) (hno : M 56 l = -1 → Q M (some (.int (-11)))) (hz : M 56 l ≠ -1 → inR x (v2n (M 56 l)) = false → ∀ M', M' = M → Q M' (some (.int (if S 1 0 0 = 0 then 0 else -13))))
    (hy : ∀ a t M', M 56 l ≠ -1 → x = nI a → a < v2n (M 56 l) → t ≤ S 1 0 0 → a + t ≤ v2n (M 56 l) → (t = S 1 0 0 ∨ a + t = v2n (M 56 l)) → EqO [55] M M' → M' 55 = layR S (M 55) (l * 30 + a) t → Q M' (some (.int (if t < S 1 0 0 then -13 else nI (S 1 0 0))))) : Call 60 mF_lay [.ref 0, .int (nI l), .int x] M Q := by
  have hw := hB.wf.nd
  have hb := hs.le
  refine Call_of (m := mF_lay) [some (.ref 0), some (.int (nI l)), some (.int x), none] rfl (fun G => Nat.le_of_ble_eq_true rfl) (fun G => rfl) ?_
  refine g_aload_n dX9_lay_0 rfl ?_
  refine g_getr (j := 10) dX9_lay_1 gc9 rfl (by decide) rfl (by decide) fl_F_79 ?_
  refine g_iload_n dX9_lay_4 rfl ?_
  refine g_call1 dX9_lay_5 clW_isRow ml_F_317 gc6 rfl rfl (by decide) (Nat.le_of_ble_eq_true rfl) ?_
  refine SW_isRowT hl ?_
  refine g_if_ne_tt 13 dX9_lay_8 (by decide) ?_
  refine g_aload_n dX9_lay_13 rfl ?_
  refine g_getr (j := 10) dX9_lay_14 gc9 rfl (by decide) rfl (by decide) fl_F_79 ?_
  refine g_iload_n dX9_lay_17 rfl ?_
  refine g_call1 dX9_lay_18 clW_isHeld ml_F_323 gc6 rfl rfl (by decide) (Nat.le_of_ble_eq_true rfl) ?_
  refine SW_isHeld hl ?_
  refine g_if_ne_b 27 dX9_lay_21 (by decide) (fun c21 => ?_) (fun c21 => ?_)
  · have c21 := of_decide_eq_true c21
    refine g_iconst (nI 0) dX9_lay_27 ki_0 ?_
    refine g_ist4_3 dX9_lay_28 (by decide) rfl ?_
    by_cases hx : inR x (v2n (M 56 l)) = true
    · obtain ⟨a, ha, rfl⟩ := inR_true hx
      have hy := fun t M' => hy a t M' c21 rfl ha
      clear hz hno
      suffices hloop : ∀ f i M', i + f = S 1 0 0 → a + i ≤ v2n (M 56 l) → EqO [55] M M' → M' 55 = layR S (M 55) (l * 30 + a) i → Go mF_lay 60 Q 29 [some (.ref 0), some (.int (nI l)), some (.int (nI a)), some (.int (nI i))] [] M' by
        exact hloop (S 1 0 0) 0 M (by omega) (by omega) EqO.rf (by rw [layR_0])
      intro f
      induction f with
      | zero =>
        intro i M' hif hai hE h55
        have hB' := hB.eqO hE (by decide)
        have e56 : M' 56 = M 56 := hE 56 (by decide)
        refine g_iload_n dX9_lay_29 rfl ?_
        refine g_if_lt_n 79 dX9_lay_30 (by decide) (by omega) ?_
        refine g_iload_n dX9_lay_33 rfl ?_
        refine g_aload_n dX9_lay_34 rfl ?_
        refine g_getr (j := 0) dX9_lay_35 gc9 rfl (by decide) rfl (by decide) fl_F_13 ?_
        refine g_geti (j := 1) dX9_lay_38 gc0 rfl (by decide) rfl (by decide) fl_F_164 ?_
        try simp (disch := omega) only [hB'.nd]
        refine g_icmp_ge_n 79 dX9_lay_41 (by decide) (by omega) (by omega) (fun c41 => ?_) (fun c41 => ?_)
        · refine g_iload_n dX9_lay_79 rfl ?_
          refine g_aload_n dX9_lay_80 rfl ?_
          refine g_getr (j := 0) dX9_lay_81 gc9 rfl (by decide) rfl (by decide) fl_F_13 ?_
          refine g_geti (j := 1) dX9_lay_84 gc0 rfl (by decide) rfl (by decide) fl_F_164 ?_
          try simp (disch := omega) only [hB'.nd]
          refine g_icmp_ge_n 95 dX9_lay_87 (by decide) (by omega) (by omega) (fun c87 => ?_) (fun c87 => ?_)
          · have h := hy i M' (by omega) (by omega) (Or.inl (by omega)) hE h55
            rw [if_neg (by omega)] at h
            refine g_iload_n dX9_lay_95 rfl ?_
            refine g_ireturn dX9_lay_96 rfl (by first | rfl | exact nar_bI _) ?_
            rw [show i = S 1 0 0 by omega]
            exact h
          · exact absurd hif (by omega)
        · exact absurd hif (by omega)
      | succ f ih =>
        intro i M' hif hai hE h55
        have hB' := hB.eqO hE (by decide)
        have e56 : M' 56 = M 56 := hE 56 (by decide)
        have hsd := sd_lt (S := S) (k := i) (by omega)
        have hdk := hB.wf.dk (d := sd S i) (by omega)
        refine g_iload_n dX9_lay_29 rfl ?_
        refine g_if_lt_n 79 dX9_lay_30 (by decide) (by omega) ?_
        refine g_iload_n dX9_lay_33 rfl ?_
        refine g_aload_n dX9_lay_34 rfl ?_
        refine g_getr (j := 0) dX9_lay_35 gc9 rfl (by decide) rfl (by decide) fl_F_13 ?_
        refine g_geti (j := 1) dX9_lay_38 gc0 rfl (by decide) rfl (by decide) fl_F_164 ?_
        try simp (disch := omega) only [hB'.nd]
        refine g_icmp_ge_n 79 dX9_lay_41 (by decide) (by omega) (by omega) (fun c41 => ?_) (fun c41 => ?_)
        · exact absurd hif (by omega)
        · refine g_aload_n dX9_lay_44 rfl ?_
          refine g_getr (j := 10) dX9_lay_45 gc9 rfl (by decide) rfl (by decide) fl_F_79 ?_
          refine g_iload_n dX9_lay_48 rfl ?_
          refine g_iload_n dX9_lay_49 rfl ?_
          refine g_iload_n dX9_lay_50 rfl ?_
          first | refine g_iadd_n dX9_lay_51 ?_ | refine g_iadd dX9_lay_51 ?_
          refine g_aload_n dX9_lay_52 rfl ?_
          refine g_getr (j := 0) dX9_lay_53 gc9 rfl (by decide) rfl (by decide) fl_F_13 ?_
          refine g_aload_n dX9_lay_56 rfl ?_
          refine g_getr (j := 0) dX9_lay_57 gc9 rfl (by decide) rfl (by decide) fl_F_13 ?_
          refine g_iload_n dX9_lay_60 rfl ?_
          refine g_call1 dX9_lay_61 clB_dutyAt ml_F_197 gc0 rfl rfl (by decide) (Nat.le_of_ble_eq_true rfl) ?_
          refine SB_dutyAt hB' (by omega) ?_
          refine g_call1 dX9_lay_64 clB_holderOf ml_F_185 gc0 rfl rfl (by decide) (Nat.le_of_ble_eq_true rfl) ?_
          refine SB_holderOf hB' hsd ?_
          refine g_call3 dX9_lay_67 clW_put ml_F_326 gc6 rfl rfl (by decide) (Nat.le_of_ble_eq_true rfl) ?_
          refine SW_put hl _ _ (by rw [e56]; exact hs) (fun M2 hE2 h2 => ?_)
          rw [e56, h55] at h2
          rw [e56, inR_nI (by omega)]
          have hB2 := hB'.eqO hE2 (by decide)
          refine g_if_eq_b 79 dX9_lay_70 (by decide) (fun c70 => ?_) (fun c70 => ?_)
          · have c70 := of_decide_eq_false c70
            have h := hy i M2 (by omega) (by omega) (Or.inr (by omega)) (hE.tr hE2) (by
              rw [h2]
              unfold putR
              rw [inR_nI (by omega), if_neg (by rw [decide_eq_false c70]; decide)])
            rw [if_pos (by omega)] at h
            refine g_iload_n dX9_lay_79 rfl ?_
            refine g_aload_n dX9_lay_80 rfl ?_
            refine g_getr (j := 0) dX9_lay_81 gc9 rfl (by decide) rfl (by decide) fl_F_13 ?_
            refine g_geti (j := 1) dX9_lay_84 gc0 rfl (by decide) rfl (by decide) fl_F_164 ?_
            try simp (disch := omega) only [hB2.nd]
            refine g_icmp_ge_n 95 dX9_lay_87 (by decide) (by omega) (by omega) (fun c87 => ?_) (fun c87 => ?_)
            · exact absurd hif (by omega)
            · refine g_bipush ((-13)) dX9_lay_90 kb_m13 ?_
              refine g_goto 96 dX9_lay_92 (by decide) ?_
              refine g_ireturn dX9_lay_96 rfl (by first | rfl | exact nar_bI _) ?_
              exact h
          · have c70 := of_decide_eq_true c70
            first | refine g_incn4_3 dX9_lay_73 ki_1 (by decide) rfl ?_ | refine g_incg4_3 (nI 1) dX9_lay_73 ki_1 (by decide) rfl ?_
            refine g_goto 29 dX9_lay_76 (by decide) ?_
            refine ih (i + 1) M2 (by omega) (by omega) (hE.tr hE2) ?_
            rw [h2]
            unfold putR
            rw [inR_nI (by omega), if_pos (decide_eq_true c70), v2n_nI (by omega)]
            exact layR_step (by omega)
    · have e := Bool.eq_false_iff.mpr hx
      have h := hz c21 e
      clear hz hno hy
      refine g_iload_n dX9_lay_29 rfl ?_
      refine g_if_lt 79 dX9_lay_30 (by decide) (fun c30 => ?_) (fun c30 => ?_)
      · refine g_iload_n dX9_lay_79 rfl ?_
        refine g_aload_n dX9_lay_80 rfl ?_
        refine g_getr (j := 0) dX9_lay_81 gc9 rfl (by decide) rfl (by decide) fl_F_13 ?_
        refine g_geti (j := 1) dX9_lay_84 gc0 rfl (by decide) rfl (by decide) fl_F_164 ?_
        try simp (disch := omega) only [hB.nd]
        refine g_icmp_ge_n 95 dX9_lay_87 (by decide) (by omega) (by omega) (fun c87 => ?_) (fun c87 => ?_)
        · rw [if_pos (by omega)] at h
          refine g_iload_n dX9_lay_95 rfl ?_
          refine g_ireturn dX9_lay_96 rfl (by first | rfl | exact nar_bI _) ?_
          exact h M rfl
        · rw [if_neg (by omega)] at h
          refine g_bipush ((-13)) dX9_lay_90 kb_m13 ?_
          refine g_goto 96 dX9_lay_92 (by decide) ?_
          refine g_ireturn dX9_lay_96 rfl (by first | rfl | exact nar_bI _) ?_
          exact h M rfl
      · skip
        refine g_iload_n dX9_lay_33 rfl ?_
        refine g_aload_n dX9_lay_34 rfl ?_
        refine g_getr (j := 0) dX9_lay_35 gc9 rfl (by decide) rfl (by decide) fl_F_13 ?_
        refine g_geti (j := 1) dX9_lay_38 gc0 rfl (by decide) rfl (by decide) fl_F_164 ?_
        try simp (disch := omega) only [hB.nd]
        refine g_icmp_ge_n 79 dX9_lay_41 (by decide) (by omega) (by omega) (fun c41 => ?_) (fun c41 => ?_)
        · rw [if_pos (by omega)] at h
          refine g_iload_n dX9_lay_79 rfl ?_
          refine g_aload_n dX9_lay_80 rfl ?_
          refine g_getr (j := 0) dX9_lay_81 gc9 rfl (by decide) rfl (by decide) fl_F_13 ?_
          refine g_geti (j := 1) dX9_lay_84 gc0 rfl (by decide) rfl (by decide) fl_F_164 ?_
          try simp (disch := omega) only [hB.nd]
          refine g_icmp_ge_n 95 dX9_lay_87 (by decide) (by omega) (by omega) (fun c87 => ?_) (fun c87 => ?_)
          · refine g_iload_n dX9_lay_95 rfl ?_
            refine g_ireturn dX9_lay_96 rfl (by first | rfl | exact nar_bI _) ?_
            exact h M rfl
          · exact absurd c41 (by omega)
        · rw [if_neg (by omega)] at h
          refine g_aload_n dX9_lay_44 rfl ?_
          refine g_getr (j := 10) dX9_lay_45 gc9 rfl (by decide) rfl (by decide) fl_F_79 ?_
          refine g_iload_n dX9_lay_48 rfl ?_
          refine g_iload_n dX9_lay_49 rfl ?_
          refine g_iload_n dX9_lay_50 rfl ?_
          refine g_iadd dX9_lay_51 ?_
          rw [show x + nI 0 = x from Int32.add_zero x]
          refine g_aload_n dX9_lay_52 rfl ?_
          refine g_getr (j := 0) dX9_lay_53 gc9 rfl (by decide) rfl (by decide) fl_F_13 ?_
          refine g_aload_n dX9_lay_56 rfl ?_
          refine g_getr (j := 0) dX9_lay_57 gc9 rfl (by decide) rfl (by decide) fl_F_13 ?_
          refine g_iload_n dX9_lay_60 rfl ?_
          refine g_call1 dX9_lay_61 clB_dutyAt ml_F_197 gc0 rfl rfl (by decide) (Nat.le_of_ble_eq_true rfl) ?_
          refine SB_dutyAt hB (by omega) ?_
          refine g_call1 dX9_lay_64 clB_holderOf ml_F_185 gc0 rfl rfl (by decide) (Nat.le_of_ble_eq_true rfl) ?_
          refine SB_holderOf hB (sd_lt (by omega)) ?_
          refine g_call3 dX9_lay_67 clW_put ml_F_326 gc6 rfl rfl (by decide) (Nat.le_of_ble_eq_true rfl) ?_
          refine SW_put hl _ _ hs (fun M2 hE2 h2 => ?_)
          have e2 : M2 = M := by
            funext k
            by_cases z : k = 55
            · subst z
              rw [h2]
              unfold putR
              rw [if_neg hx]
            · exact hE2 k (by simpa using z)
          rw [e2, e]
          refine g_if_eq_ff 79 dX9_lay_70 (by decide) ?_
          refine g_iload_n dX9_lay_79 rfl ?_
          refine g_aload_n dX9_lay_80 rfl ?_
          refine g_getr (j := 0) dX9_lay_81 gc9 rfl (by decide) rfl (by decide) fl_F_13 ?_
          refine g_geti (j := 1) dX9_lay_84 gc0 rfl (by decide) rfl (by decide) fl_F_164 ?_
          try simp (disch := omega) only [hB.nd]
          refine g_icmp_ge_n 95 dX9_lay_87 (by decide) (by omega) (by omega) (fun c87 => ?_) (fun c87 => ?_)
          · exact absurd c41 (by omega)
          · refine g_bipush ((-13)) dX9_lay_90 kb_m13 ?_
            refine g_goto 96 dX9_lay_92 (by decide) ?_
            refine g_ireturn dX9_lay_96 rfl (by first | rfl | exact nar_bI _) ?_
            exact h M rfl
  · have c21 : M 56 l = -1 := Decidable.not_not.mp (of_decide_eq_false c21)
    refine g_bipush ((-11)) dX9_lay_24 kb_m11 ?_
    refine g_ireturn dX9_lay_26 rfl (by first | rfl | exact nar_bI _) ?_
    exact hno c21
theorem SM_layL {l : Nat} (x : Int32) (M : Mm) (S : BS) (Q : Po) (hM : MK (M 58) S) (hl : l < 4) (hs : szO (M 75 l)) (hno : M 75 l = -1 → Q M (some (.int (-11)))) (hz : M 75 l ≠ -1 → inR x (v2n (M 75 l)) = false → ∀ M', EqO [62] M M' → Q M' (some (.int (if S 1 0 0 = 0 then 0 else -13))))
    (hy : ∀ a t M', M 75 l ≠ -1 → x = nI a → a < v2n (M 75 l) → t ≤ S 1 0 0 → a + t ≤ v2n (M 75 l) → (t = S 1 0 0 ∨ a + t = v2n (M 75 l)) → EqO [62, 76] M M' → M' 76 = layR S (M 76) (l * 30 + a) t → Q M' (some (.int (if t < S 1 0 0 then -13 else nI (S 1 0 0))))) : Call 60 mM_lay [.ref 57, .int (nI l), .int x] M Q := by
  have hw := hM.wf.nd
  have hb := hs.le
  refine Call_of (m := mM_lay) [some (.ref 57), some (.int (nI l)), some (.int x), none] rfl (fun G => Nat.le_of_ble_eq_true rfl) (fun G => rfl) ?_
  refine g_iload_n dX10_lay_0 rfl ?_
  refine g_calls1 dX10_lay_1 clM_isList ml_M_377 (Nat.le_of_ble_eq_true rfl) ?_
  refine SM_isList _ ?_
  rw [inR_nI (by omega), decide_eq_true hl]
  rcases hs with e | ⟨s, hs, e⟩
  · have h := hno e
    refine g_if_ne_tt 9 dX10_lay_4 (by decide) ?_
    refine g_aload_n dX10_lay_9 rfl ?_
    refine g_getr (j := 32) dX10_lay_10 gc10 rfl (by decide) rfl (by decide) fl_M_62 ?_
    refine g_iload_n dX10_lay_13 rfl ?_
    refine g_iald_n dX10_lay_14 (by first | rfl | assumption) (by first | decide | assumption) (by omega) (by omega) ?_
    try simp (disch := omega) only [e]
    refine g_if_ge 21 dX10_lay_15 (by decide) (fun c15 => ?_) (fun c15 => ?_)
    · exact absurd c15 (by decide)
    · refine g_bipush ((-11)) dX10_lay_18 kb_m11 ?_
      refine g_ireturn dX10_lay_20 rfl (by first | rfl | exact nar_bI _) ?_
      exact h
  · have n1 : ¬ M 75 l = -1 := by rw [e]; exact nI_m1 (by omega)
    have ev : v2n (M 75 l) = s := by rw [e, v2n_nI (by omega)]
    rw [ev] at hz hy hb
    refine g_if_ne_tt 9 dX10_lay_4 (by decide) ?_
    refine g_aload_n dX10_lay_9 rfl ?_
    refine g_getr (j := 32) dX10_lay_10 gc10 rfl (by decide) rfl (by decide) fl_M_62 ?_
    refine g_iload_n dX10_lay_13 rfl ?_
    refine g_iald_n dX10_lay_14 (by first | rfl | assumption) (by first | decide | assumption) (by omega) (by omega) ?_
    try simp (disch := omega) only [e]
    refine g_if_ge_n 21 dX10_lay_15 (by decide) (by omega) ?_
    refine g_aload_n dX10_lay_21 rfl ?_
    refine g_call0 dX10_lay_22 clM_lines ml_M_103 gc10 rfl rfl (by decide) (Nat.le_of_ble_eq_true rfl) ?_
    refine SM_lines hM (fun M0 hE0 h62 => ?_)
    have hM0 : MK (M0 58) S := by rw [hE0 58 (by decide)]; exact hM
    have e0 : M0 75 l = nI s := by rw [hE0 75 (by decide)]; exact e
    refine g_iconst (nI 0) dX10_lay_25 ki_0 ?_
    refine g_ist4_3 dX10_lay_26 (by decide) rfl ?_
    by_cases hx : inR x s = true
    · obtain ⟨a, ha, rfl⟩ := inR_true hx
      have hy := fun t M' => hy a t M' n1 rfl ha
      clear hz hno
      suffices hloop : ∀ f i M', i + f = S 1 0 0 → a + i ≤ s → EqO [76] M0 M' → M' 76 = layR S (M0 76) (l * 30 + a) i → Go mM_lay 60 Q 27 [some (.ref 57), some (.int (nI l)), some (.int (nI a)), some (.int (nI i))] [] M' by
        exact hloop (S 1 0 0) 0 M0 (by omega) (by omega) EqO.rf (by rw [layR_0])
      intro f
      have hfr : ∀ M', EqO [76] M0 M' → EqO [62, 76] M M' := fun M' hE => (hE0.sub (by decide)).tr (hE.sub (by decide))
      induction f with
      | zero =>
        intro i M' hif hai hE h76
        have hM' : MK (M' 58) S := by rw [hE 58 (by decide)]; exact hM0
        have h := hy i M' (by omega) (by omega) (Or.inl (by omega)) (hfr M' hE) (by rw [h76, hE0 76 (by decide)])
        rw [if_neg (by omega)] at h
        refine g_iload_n dX10_lay_27 rfl ?_
        refine g_aload_n dX10_lay_28 rfl ?_
        refine g_getr (j := 0) dX10_lay_29 gc10 rfl (by decide) rfl (by decide) fl_M_9 ?_
        refine g_iconst (nI 2) dX10_lay_32 ki_2 ?_
        refine g_iald_n dX10_lay_33 (by first | rfl | assumption) (by first | decide | assumption) (by omega) (by omega) ?_
        try simp (disch := omega) only [hM'.nd]
        refine g_icmp_ge_n 85 dX10_lay_34 (by decide) (by omega) (by omega) (fun c34 => ?_) (fun c34 => ?_)
        · refine g_aload_n dX10_lay_85 rfl ?_
          refine g_getr (j := 0) dX10_lay_86 gc10 rfl (by decide) rfl (by decide) fl_M_9 ?_
          refine g_iconst (nI 2) dX10_lay_89 ki_2 ?_
          refine g_iald_n dX10_lay_90 (by first | rfl | assumption) (by first | decide | assumption) (by omega) (by omega) ?_
          try simp (disch := omega) only [hM'.nd]
          refine g_ireturn dX10_lay_91 rfl (by first | rfl | exact nar_bI _) ?_
          exact h
        · exact absurd hif (by omega)
      | succ f ih =>
        intro i M' hif hai hE h76
        have hM' : MK (M' 58) S := by rw [hE 58 (by decide)]; exact hM0
        have e' : M' 75 l = nI s := by rw [hE 75 (by decide)]; exact e0
        have es : M' 62 i = nI (sd S i) := by rw [hE 62 (by decide)]; exact h62 i (by omega)
        have hsd := sd_lt (S := S) (k := i) (by omega)
        have hdk := hM.wf.dk (d := sd S i) (by omega)
        refine g_iload_n dX10_lay_27 rfl ?_
        refine g_aload_n dX10_lay_28 rfl ?_
        refine g_getr (j := 0) dX10_lay_29 gc10 rfl (by decide) rfl (by decide) fl_M_9 ?_
        refine g_iconst (nI 2) dX10_lay_32 ki_2 ?_
        refine g_iald_n dX10_lay_33 (by first | rfl | assumption) (by first | decide | assumption) (by omega) (by omega) ?_
        try simp (disch := omega) only [hM'.nd, e', es]
        refine g_icmp_ge_n 85 dX10_lay_34 (by decide) (by omega) (by omega) (fun c34 => ?_) (fun c34 => ?_)
        · exact absurd hif (by omega)
        · skip
          refine g_iload_n dX10_lay_37 rfl ?_
          refine g_if_lt_n 53 dX10_lay_38 (by decide) (by omega) ?_
          refine g_iload_n dX10_lay_41 rfl ?_
          refine g_aload_n dX10_lay_42 rfl ?_
          refine g_getr (j := 32) dX10_lay_43 gc10 rfl (by decide) rfl (by decide) fl_M_62 ?_
          refine g_iload_n dX10_lay_46 rfl ?_
          refine g_iald_n dX10_lay_47 (by first | rfl | assumption) (by first | decide | assumption) (by omega) (by omega) ?_
          try simp (disch := omega) only [hM'.nd, e', es]
          refine g_iload_n dX10_lay_48 rfl ?_
          first | refine g_isub_n dX10_lay_49 (by omega) ?_ | refine g_isub dX10_lay_49 ?_
          refine g_icmp_lt_n 56 dX10_lay_50 (by decide) (by omega) (by omega) (fun c50 => ?_) (fun c50 => ?_)
          · refine g_aload_n dX10_lay_56 rfl ?_
            refine g_getr (j := 33) dX10_lay_57 gc10 rfl (by decide) rfl (by decide) fl_M_65 ?_
            refine g_bipush (nI 30) dX10_lay_60 kb_30 ?_
            refine g_iload_n dX10_lay_62 rfl ?_
            first | refine g_imul_n dX10_lay_63 ?_ | refine g_imul dX10_lay_63 ?_
            refine g_iload_n dX10_lay_64 rfl ?_
            first | refine g_iadd_n dX10_lay_65 ?_ | refine g_iadd dX10_lay_65 ?_
            refine g_iload_n dX10_lay_66 rfl ?_
            first | refine g_iadd_n dX10_lay_67 ?_ | refine g_iadd dX10_lay_67 ?_
            refine g_aload_n dX10_lay_68 rfl ?_
            refine g_aload_n dX10_lay_69 rfl ?_
            refine g_getr (j := 5) dX10_lay_70 gc10 rfl (by decide) rfl (by decide) fl_M_22 ?_
            refine g_iload_n dX10_lay_73 rfl ?_
            refine g_iald_n dX10_lay_74 (by first | rfl | assumption) (by first | decide | assumption) (by omega) (by omega) ?_
            try simp (disch := omega) only [hM'.nd, e', es]
            refine g_call1 dX10_lay_75 clM_holder ml_M_78 gc10 rfl rfl (by decide) (Nat.le_of_ble_eq_true rfl) ?_
            refine SM_holder hM' hsd ?_
            refine g_iast_n dX10_lay_78 (by first | rfl | assumption) (by first | decide | assumption) (by omega) (by omega) ?_
            first | refine g_incn4_3 dX10_lay_79 ki_1 (by decide) rfl ?_ | refine g_incg4_3 (nI 1) dX10_lay_79 ki_1 (by decide) rfl ?_
            refine g_goto 27 dX10_lay_82 (by decide) ?_
            refine ih (i + 1) _ (by omega) (by omega) (hE.tr (EqO.set (by decide))) ?_
            rw [mset_same, h76]
            exact layR_step (by omega)
          · have h := hy i M' (by omega) (by omega) (Or.inr (by omega)) (hfr M' hE) (by rw [h76, hE0 76 (by decide)])
            rw [if_pos (by omega)] at h
            refine g_bipush ((-13)) dX10_lay_53 kb_m13 ?_
            refine g_ireturn dX10_lay_55 rfl (by first | rfl | exact nar_bI _) ?_
            exact h
    · have h := hz n1 (Bool.eq_false_iff.mpr hx) M0 hE0
      clear hz hno hy
      refine g_iload_n dX10_lay_27 rfl ?_
      refine g_aload_n dX10_lay_28 rfl ?_
      refine g_getr (j := 0) dX10_lay_29 gc10 rfl (by decide) rfl (by decide) fl_M_9 ?_
      refine g_iconst (nI 2) dX10_lay_32 ki_2 ?_
      refine g_iald_n dX10_lay_33 (by first | rfl | assumption) (by first | decide | assumption) (by omega) (by omega) ?_
      try simp (disch := omega) only [hM0.nd, e0]
      refine g_icmp_ge_n 85 dX10_lay_34 (by decide) (by omega) (by omega) (fun c34 => ?_) (fun c34 => ?_)
      · rw [if_pos (by omega)] at h
        refine g_aload_n dX10_lay_85 rfl ?_
        refine g_getr (j := 0) dX10_lay_86 gc10 rfl (by decide) rfl (by decide) fl_M_9 ?_
        refine g_iconst (nI 2) dX10_lay_89 ki_2 ?_
        refine g_iald_n dX10_lay_90 (by first | rfl | assumption) (by first | decide | assumption) (by omega) (by omega) ?_
        try simp (disch := omega) only [hM0.nd, e0]
        refine g_ireturn dX10_lay_91 rfl (by first | rfl | exact nar_bI _) ?_
        rw [show S 1 0 0 = 0 by omega]
        exact h
      · rw [if_neg (by omega)] at h
        refine g_iload_n dX10_lay_37 rfl ?_
        refine g_if_lt 53 dX10_lay_38 (by decide) (fun c38 => ?_) (fun c38 => ?_)
        · refine g_bipush ((-13)) dX10_lay_53 kb_m13 ?_
          refine g_ireturn dX10_lay_55 rfl (by first | rfl | exact nar_bI _) ?_
          exact h
        · skip
          refine g_iload_n dX10_lay_41 rfl ?_
          refine g_aload_n dX10_lay_42 rfl ?_
          refine g_getr (j := 32) dX10_lay_43 gc10 rfl (by decide) rfl (by decide) fl_M_62 ?_
          refine g_iload_n dX10_lay_46 rfl ?_
          refine g_iald_n dX10_lay_47 (by first | rfl | assumption) (by first | decide | assumption) (by omega) (by omega) ?_
          try simp (disch := omega) only [hM0.nd, e0]
          refine g_iload_n dX10_lay_48 rfl ?_
          refine g_isub dX10_lay_49 ?_
          rw [show nI s - nI 0 = nI s from nI_sub (Nat.zero_le _)]
          refine g_icmp_lt 56 dX10_lay_50 (by decide) (fun c50 => ?_) (fun c50 => ?_)
          · exact absurd (inR_t1 (by omega) c38 (Int32.not_le.mpr c50)) hx
          · refine g_bipush ((-13)) dX10_lay_53 kb_m13 ?_
            refine g_ireturn dX10_lay_55 rfl (by first | rfl | exact nar_bI _) ?_
            exact h
theorem both_lay (x i : Int32) : Both mF_lay mM_lay [.int x, .int i] := by
  intro M hI
  by_cases hx : inR x 4 = true
  · obtain ⟨l, hl, rfl⟩ := inR_true hx
    obtain ⟨S, b, S', tn, t, pn, pf, i1, i2, i3, i4⟩ := id hI
    have hz := i4.sz hl
    refine SF_layL i M S _ i2 hl hz.2 (fun z => ?_) (fun z1 z2 M' eM => ?_) (fun a u M1 z1 z2 z3 z4 z5 z6 hE1 h1 => ?_)
    · refine ⟨IsI.rf, ?_⟩
      exact SM_layL i M S _ i3 hl (by rw [hz.1]; exact hz.2) (fun _ => ⟨TyI.rf, hI⟩) (fun y => absurd (hz.1.trans z) y) (fun _ _ _ y => absurd (hz.1.trans z) y)
    · subst eM
      refine ⟨IsI.rf, ?_⟩
      refine SM_layL i M' S _ i3 hl (by rw [hz.1]; exact hz.2) (fun y => absurd (hz.1.symm.trans y) z1) (fun _ _ M2 hE => ⟨TyI.rf, hI.q hE⟩) (fun a u _ _ y2 y3 => ?_)
      rw [hz.1] at y3
      subst y2
      have h31 := hz.2.le
      rw [inR_nI (by omega)] at z2
      exact absurd y3 (of_decide_eq_false z2)
    · have e75 : M1 75 l = M 56 l := by rw [hE1 75 (by decide)]; exact hz.1
      have h31 := hz.2.le
      subst z2
      refine ⟨IsI.rf, ?_⟩
      refine SM_layL (nI a) M1 S _ (by rw [hE1 58 (by decide)]; exact i3) hl (by rw [e75]; exact hz.2) (fun y => absurd (e75.symm.trans y) z1) (fun _ y => ?_) (fun a2 u2 M2 _ y2 y3 y4 y5 y6 hE2 h2 => ?_)
      · rw [e75, inR_nI (by omega)] at y
        exact absurd z3 (of_decide_eq_false y)
      · rw [e75] at y3 y5 y6
        obtain rfl : a = a2 := (nI_eq (by omega) (by omega)).mp y2
        obtain rfl : u = u2 := by omega
        refine ⟨TyI.rf, ?_⟩
        have hE := (hE1.sub (L' := [55, 62, 76]) (by decide)).tr (hE2.sub (L' := [55, 62, 76]) (by decide))
        refine hI.rows (fun k n1 n2 n3 n4 n5 => hE k (by simp only [List.mem_cons, List.not_mem_nil, or_false]; omega)) (fun k hk => ?_) (fun j hj => ?_)
        · rw [hE 75 (by decide), hE 56 (by decide)]; exact i4.sz hk
        · rw [h2, hE2 55 (by decide), h1, hE1 76 (by decide)]
          unfold layR
          rw [i4.cl hj]
  · have e := Bool.eq_false_iff.mpr hx
    refine Call_of (m := mF_lay) [some (.ref 0), some (.int x), some (.int i), none] rfl (fun G => Nat.le_of_ble_eq_true rfl) (fun G => rfl) ?_
    refine g_aload_n dX9_lay_0 rfl ?_
    refine g_getr (j := 10) dX9_lay_1 gc9 rfl (by decide) rfl (by decide) fl_F_79 ?_
    refine g_iload_n dX9_lay_4 rfl ?_
    refine g_call1 dX9_lay_5 clW_isRow ml_F_317 gc6 rfl rfl (by decide) (Nat.le_of_ble_eq_true rfl) ?_
    refine SW_isRow x ?_
    rw [e]
    refine g_if_ne_ff 13 dX9_lay_8 (by decide) ?_
    refine g_iconst ((-1)) dX9_lay_11 ki_m1 ?_
    refine g_ireturn dX9_lay_12 rfl (by first | rfl | exact nar_bI _) ?_
    refine ⟨IsI.rf, ?_⟩
    refine Call_of (m := mM_lay) [some (.ref 57), some (.int x), some (.int i), none] rfl (fun G => Nat.le_of_ble_eq_true rfl) (fun G => rfl) ?_
    refine g_iload_n dX10_lay_0 rfl ?_
    refine g_calls1 dX10_lay_1 clM_isList ml_M_377 (Nat.le_of_ble_eq_true rfl) ?_
    refine SM_isList x ?_
    rw [e]
    refine g_if_ne_ff 9 dX10_lay_4 (by decide) ?_
    refine g_iconst ((-1)) dX10_lay_7 ki_m1 ?_
    refine g_ireturn dX10_lay_8 rfl (by first | rfl | exact nar_bI _) ?_
    exact ⟨TyI.rf, hI⟩
