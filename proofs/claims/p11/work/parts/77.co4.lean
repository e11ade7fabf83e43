/-! pick, openAll in the class -/
theorem hoS_skip {S : BS} {f : Nat → Nat} {k : Nat} (h : f k = S 12 k 0) : hoS S f (k + 1) = hoS S f k := by
  funext a b c
  unfold hoS
  by_cases z : a = 12 ∧ c = 0 ∧ b < k
  · rw [if_pos z, if_pos (by omega)]
  · rw [if_neg z]
    by_cases y : a = 12 ∧ c = 0 ∧ b < k + 1
    · rw [if_pos y]
      obtain ⟨rfl, rfl, y3⟩ := y
      obtain rfl : b = k := by omega
      exact h
    · rw [if_neg y]
theorem hoS_at {S : BS} {f : Nat → Nat} {k b : Nat} (h : k ≤ b) : hoS S f k 12 b 0 = S 12 b 0 := by
  unfold hoS
  rw [if_neg (by omega)]
def btB (v : Int32) (d : Nat) : Bool := !(((v >>> (nI d &&& 31)) &&& nI 1) == nI 0)
def oaG (S : BS) (v : Int32) (d : Nat) : Nat := if btB v d = true then 8 else S 12 d 0
def oaC (S : BS) (v : Int32) (d : Nat) : Bool := btB v d && !(S 12 d 0 == 8)
def f_pick (S : BS) (n : Nat) (t : Nat → Nat) : Int32 × BS × Bool := (clV (pkB (cdB S n t) (S 1 0 0)) (stP n t), S, false)
def f_openAll (S : BS) (n : Nat) (t : Nat → Nat) : Int32 × BS × Bool := (clV (nI (cnt (oaC S (pkB (cdB S n t) (S 1 0 0))) (S 1 0 0))) (stP n t), if okB (stP n t) = true then hoS S (oaG S (pkB (cdB S n t) (S 1 0 0))) (S 1 0 0) else S, false)
theorem SF_pick (M : Mm) (S : BS) (n : Nat) (t : Nat → Nat) (Q : Po) (hB : BK M S) (hH : HM S) (hT : TPc n t M) (h : ∀ M', FxC M M' → BK M' (f_pick S n t).2.1 → M' 41 1 = (if (f_pick S n t).2.2 = true then nI n else nI 0) → Q M' (some (.int (f_pick S n t).1))) : Call 60 mF_pick [.ref 0] M Q := by
  unfold f_pick at h
  dsimp only at h
  refine Call_of (m := mF_pick) [some (.ref 0), none] rfl (fun G => Nat.le_of_ble_eq_true rfl) (fun G => rfl) ?_
  refine g_aload_n dX9_pick_0 rfl ?_
  refine g_getr (j := 8) dX9_pick_1 gc9 rfl (by decide) rfl (by decide) fl_F_65 ?_
  refine g_call0 dX9_pick_4 clC_pickDuties ml_F_272 gc1 rfl rfl (by decide) (Nat.le_of_ble_eq_true rfl) ?_
  refine SC_pickDuties hB hT (fun M1 v hE1 hT1 hv => ?_)
  have hB1 : BK M1 S := hB.eqO hE1 (by decide)
  generalize stP n t = r at h hT1 hv
  refine g_ist2_1 dX9_pick_7 (by decide) rfl ?_
  refine g_aload_n dX9_pick_8 rfl ?_
  refine g_getr (j := 6) dX9_pick_9 gc9 rfl (by decide) rfl (by decide) fl_F_49 ?_
  refine g_call0 dX9_pick_12 clT_isFaulty ml_F_145 gc7 rfl rfl (by decide) (Nat.le_of_ble_eq_true rfl) ?_
  refine ST_isFaulty hT1 ?_
  by_cases hok : okB r = true
  · rw [hok]
    refine g_if_eq_ff 23 dX9_pick_15 (by decide) ?_
    refine g_aload_n dX9_pick_23 rfl ?_
    refine g_getr (j := 6) dX9_pick_24 gc9 rfl (by decide) rfl (by decide) fl_F_49 ?_
    refine g_call0 dX9_pick_27 clT_wipe ml_F_158 gc7 rfl rfl (by decide) (Nat.le_of_ble_eq_true rfl) ?_
    refine ST_wipe ?_
    refine g_pop dX9_pick_30 rfl ?_
    refine g_iload_n dX9_pick_31 rfl ?_
    refine g_ireturn dX9_pick_32 rfl (by first | rfl | exact nar_bI _) ?_
    rw [hv hok]
    cases r with
    | inl a =>
      refine h (mset M1 41 1 (nI 0)) (FxC.of (L := [41, 51]) (hE1.tr (EqO.set (by decide))) (by decide)) (hB1.off (fun k k1 k2 => mset_ne (by omega))) ?_
      rw [mset_at]; rfl
    | inr f => cases hok
  · have hok := Bool.eq_false_iff.mpr hok
    rw [hok]
    cases r with
    | inl a => cases hok
    | inr f =>
      refine g_if_eq_tt 23 dX9_pick_15 (by decide) ?_
      refine g_aload_n dX9_pick_18 rfl ?_
      refine g_call0 dX9_pick_19 clF_faultAnswer ml_F_149 gc9 rfl rfl (by decide) (Nat.le_of_ble_eq_true rfl) ?_
      refine SF_faultAnswer hT1 ?_
      refine g_ireturn dX9_pick_22 rfl (by first | rfl | exact nar_bI _) ?_
      refine h (mset M1 41 1 (nI 0)) (FxC.of (L := [41, 51]) (hE1.tr (EqO.set (by decide))) (by decide)) (hB1.off (fun k k1 k2 => mset_ne (by omega))) ?_
      rw [mset_at]; rfl
theorem SF_openAll (M : Mm) (S : BS) (n : Nat) (t : Nat → Nat) (Q : Po) (hB : BK M S) (hH : HM S) (hT : TPc n t M) (h : ∀ M', FxC M M' → BK M' (f_openAll S n t).2.1 → M' 41 1 = (if (f_openAll S n t).2.2 = true then nI n else nI 0) → Q M' (some (.int (f_openAll S n t).1))) : Call 60 mF_openAll [.ref 0] M Q := by
  have hw := hB.wf.nd
  unfold f_openAll at h
  dsimp only at h
  refine Call_of (m := mF_openAll) [some (.ref 0), none, none, none] rfl (fun G => Nat.le_of_ble_eq_true rfl) (fun G => rfl) ?_
  refine g_aload_n dX9_openAll_0 rfl ?_
  refine g_getr (j := 8) dX9_openAll_1 gc9 rfl (by decide) rfl (by decide) fl_F_65 ?_
  refine g_call0 dX9_openAll_4 clC_pickDuties ml_F_272 gc1 rfl rfl (by decide) (Nat.le_of_ble_eq_true rfl) ?_
  refine SC_pickDuties hB hT (fun M1 v hE1 hT1 hv => ?_)
  have hB1 : BK M1 S := hB.eqO hE1 (by decide)
  generalize stP n t = r at h hT1 hv
  refine g_ist4_1 dX9_openAll_7 (by decide) rfl ?_
  refine g_aload_n dX9_openAll_8 rfl ?_
  refine g_getr (j := 6) dX9_openAll_9 gc9 rfl (by decide) rfl (by decide) fl_F_49 ?_
  refine g_call0 dX9_openAll_12 clT_isFaulty ml_F_145 gc7 rfl rfl (by decide) (Nat.le_of_ble_eq_true rfl) ?_
  refine ST_isFaulty hT1 ?_
  by_cases hok : okB r = true
  · rw [if_pos hok, ← hv hok] at h
    rw [hok]
    refine g_if_eq_ff 23 dX9_openAll_15 (by decide) ?_
    refine g_aload_n dX9_openAll_23 rfl ?_
    refine g_getr (j := 6) dX9_openAll_24 gc9 rfl (by decide) rfl (by decide) fl_F_49 ?_
    refine g_call0 dX9_openAll_27 clT_wipe ml_F_158 gc7 rfl rfl (by decide) (Nat.le_of_ble_eq_true rfl) ?_
    refine ST_wipe ?_
    refine g_pop dX9_openAll_30 rfl ?_
    refine g_iconst (nI 0) dX9_openAll_31 ki_0 ?_
    refine g_ist4_2 dX9_openAll_32 (by decide) rfl ?_
    refine g_iconst (nI 0) dX9_openAll_33 ki_0 ?_
    refine g_ist4_3 dX9_openAll_34 (by decide) rfl ?_
    cases r with
    | inr f => cases hok
    | inl a =>
      refine loop_up (P := fun i => ∀ M', EqO [2] (mset M1 41 1 (nI 0)) M' → BK M' (hoS S (oaG S v) i) → Go mF_openAll 60 Q 35 [some (.ref 0), some (.int v), some (.int (nI (cnt (oaC S v) i))), some (.int (nI i))] [] M') (S 1 0 0) ?_ 0 (Nat.zero_le _) _ EqO.rf (by rw [hoS_0]; exact hB1.off (fun k k1 k2 => mset_ne (by omega)))
      intro i hi ih M' hE hB'
      have hdk := hB.wf.dk (d := i)
      have hcl := cnt_le (oaC S v) i
      have e1 : ∀ k, hoS S (oaG S v) k 1 0 0 = S 1 0 0 := fun k => by rw [hoS_oth (by decide)]
      refine g_iload_n dX9_openAll_35 rfl ?_
      refine g_aload_n dX9_openAll_36 rfl ?_
      refine g_getr (j := 0) dX9_openAll_37 gc9 rfl (by decide) rfl (by decide) fl_F_13 ?_
      refine g_geti (j := 1) dX9_openAll_40 gc0 rfl (by decide) rfl (by decide) fl_F_164 ?_
      try simp (disch := omega) only [hB'.nd, e1]
      refine g_icmp_ge_n 87 dX9_openAll_43 (by decide) (by omega) (by omega) (fun c43 => ?_) (fun c43 => ?_)
      · refine g_iload_n dX9_openAll_87 rfl ?_
        refine g_ireturn dX9_openAll_88 rfl (by first | rfl | exact nar_bI _) ?_
        rw [show i = S 1 0 0 by omega] at hB' ⊢
        refine h M' (FxC.of (L := [2, 41, 51]) (((hE1.sub (by decide)).tr ((EqO.set (by decide)).tr (hE.sub (by decide))))) (by decide)) hB' ?_
        rw [hE 41 (by decide), mset_at]
        rfl
      · have hdk := hdk (by omega)
        have hskip : ∀ i2, i2 = i → oaG S v i = S 12 i 0 → oaC S v i = false → Go mF_openAll 60 Q 81 [some (.ref 0), some (.int v), some (.int (nI (cnt (oaC S v) i2))), some (.int (nI i))] [] M' := by
          intro i2 e hg hc
          subst e
          first | refine g_incn4_3 dX9_openAll_81 ki_1 (by decide) rfl ?_ | refine g_incg4_3 (nI 1) dX9_openAll_81 ki_1 (by decide) rfl ?_
          refine g_goto 35 dX9_openAll_84 (by decide) ?_
          have ih := ih (by omega) M' hE (by rw [hoS_skip hg]; exact hB')
          rw [cnt_f hc] at ih
          exact ih
        refine g_iload_n dX9_openAll_46 rfl ?_
        refine g_iload_n dX9_openAll_47 rfl ?_
        refine g_ishr dX9_openAll_48 ?_
        refine g_iconst (nI 1) dX9_openAll_49 ki_1 ?_
        refine g_iand dX9_openAll_50 ?_
        refine g_if_eq 81 dX9_openAll_51 (by decide) (fun c51 => ?_) (fun c51 => ?_)
        · refine hskip i rfl ?_ ?_
          · unfold oaG btB; rw [if_neg (by rw [c51]; decide)]
          · unfold oaC btB; rw [c51]; rfl
        · have hbt : btB v i = true := by
            unfold btB
            rw [Bool.not_eq_true', beq_eq_false_iff_ne]
            exact c51
          refine g_aload_n dX9_openAll_54 rfl ?_
          refine g_getr (j := 0) dX9_openAll_55 gc9 rfl (by decide) rfl (by decide) fl_F_13 ?_
          refine g_iload_n dX9_openAll_58 rfl ?_
          refine g_call1 dX9_openAll_59 clB_holderOf ml_F_185 gc0 rfl rfl (by decide) (Nat.le_of_ble_eq_true rfl) ?_
          refine SB_holderOf hB' (by rw [e1]; omega) ?_
          rw [hoS_at (Nat.le_refl i)]
          refine g_iconst ((-1)) dX9_openAll_62 ki_m1 ?_
          refine g_icmp_ne 69 dX9_openAll_63 (by decide) (fun c63 => ?_) (fun c63 => ?_)
          · rw [hv_open _ hdk.2.2] at c63
            refine g_aload_n dX9_openAll_69 rfl ?_
            refine g_getr (j := 0) dX9_openAll_70 gc9 rfl (by decide) rfl (by decide) fl_F_13 ?_
            refine g_iload_n dX9_openAll_73 rfl ?_
            refine g_iconst ((-1)) dX9_openAll_74 ki_m1 ?_
            refine g_call2 dX9_openAll_75 clB_putHolder ml_F_209 gc0 rfl rfl (by decide) (Nat.le_of_ble_eq_true rfl) ?_
            refine SB_putHolder hB' (by rw [e1]; omega) ?_
            first | refine g_incn4_2 dX9_openAll_78 ki_1 (by decide) rfl ?_ | refine g_incg4_2 (nI 1) dX9_openAll_78 ki_1 (by decide) rfl ?_
            first | refine g_incn4_3 dX9_openAll_81 ki_1 (by decide) rfl ?_ | refine g_incg4_3 (nI 1) dX9_openAll_81 ki_1 (by decide) rfl ?_
            refine g_goto 35 dX9_openAll_84 (by decide) ?_
            have ih := ih (by omega) (mset M' 2 i (-1)) (hE.tr (EqO.set (by decide))) (by
              rw [hoS_step, show oaG S v i = 8 from if_pos hbt]
              exact hB'.hol1 (by rw [e1]; omega) (by omega))
            rw [cnt_t (f := oaC S v) (by unfold oaC; rw [hbt]; simp [c63])] at ih
            exact ih
          · rw [hv_open _ hdk.2.2] at c63
            refine g_goto 81 dX9_openAll_66 (by decide) ?_
            refine hskip i rfl ?_ ?_
            · unfold oaG; rw [if_pos hbt, c63]
            · unfold oaC; rw [c63]; simp
  · have hok := Bool.eq_false_iff.mpr hok
    rw [if_neg (by rw [hok]; decide)] at h
    rw [hok]
    cases r with
    | inl a => cases hok
    | inr f =>
      refine g_if_eq_tt 23 dX9_openAll_15 (by decide) ?_
      refine g_aload_n dX9_openAll_18 rfl ?_
      refine g_call0 dX9_openAll_19 clF_faultAnswer ml_F_149 gc9 rfl rfl (by decide) (Nat.le_of_ble_eq_true rfl) ?_
      refine SF_faultAnswer hT1 ?_
      refine g_ireturn dX9_openAll_22 rfl (by first | rfl | exact nar_bI _) ?_
      refine h (mset M1 41 1 (nI 0)) (FxC.of (L := [41, 51]) (hE1.tr (EqO.set (by decide))) (by decide)) (hB1.off (fun k k1 k2 => mset_ne (by omega))) ?_
      rw [mset_at]; rfl
