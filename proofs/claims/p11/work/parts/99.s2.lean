/-! ring in the reference, both -/
theorem inJ_R01 (x : Int32) : inJ x.toInt64 0 1 = decide (0 ≤ x.toInt ∧ x.toInt ≤ 1) := by
  unfold inJ
  rw [Int32.toInt_toInt64]
  rfl
theorem inJ_R10 (x : Int32) : inJ x.toInt64 10 13 = decide (10 ≤ x.toInt ∧ x.toInt ≤ 13) := by
  unfold inJ
  rw [Int32.toInt_toInt64]
  rfl
theorem SM_ring (x : Int32) (M : Mm) (S : BS) (Q : Po) (hM : MK (M 58) S) (hC : MC M) (hH : HM S) (h : ∀ (M' : Mm) (y : Int32), FrM M M' → MK (M' 58) S → Q M' (some (.int y))) : Call 60 mM_ring [.ref 57, .int x] M Q := by
  by_cases hx : (0 ≤ x.toInt ∧ x.toInt ≤ 1) ∨ (10 ≤ x.toInt ∧ x.toInt ≤ 13)
  · obtain ⟨u, hu⟩ : ∃ u : Nat, x.toInt = (u : Int) := ⟨x.toInt.toNat, by omega⟩
    obtain rfl : x = nI u := t_nI hu (by omega)
    have hgo : Go mM_ring 60 Q 26 [some (.ref 57), some (.int (nI u))] [] M := by
      rw [hu] at hx
      refine g_aload_n dX10_ring_26 rfl ?_
      refine g_call0 dX10_ring_27 clM_findsRing ml_M_220 gc10 rfl rfl (by decide) (Nat.le_of_ble_eq_true rfl) ?_
      refine SM_findsRing hM hH (fun M1 m b g hE1 hB1 => ?_)
      obtain ⟨o1, o2, o3, o4, o5, o6⟩ := hB1.out
      have hM1 : MK (M1 58) S := by rw [hE1.r58]; exact hM
      have hf : ∀ y : Int32, Q M1 (some (.int y)) := fun y => h M1 y (FrM.ofH hE1) hM1
      refine g_aload_n dX10_ring_30 rfl ?_
      refine g_geti (j := 16) dX10_ring_31 gc10 rfl (by decide) rfl (by decide) fl_M_206 ?_
      try simp (disch := omega) only [o2, o3]
      refine g_if_ne_n 40 dX10_ring_34 (by decide) (by omega) (fun c34 => ?_) (fun c34 => ?_)
      · refine g_iload_n dX10_ring_40 rfl ?_
        refine g_if_ne_n 51 dX10_ring_41 (by decide) (by omega) (fun c41 => ?_) (fun c41 => ?_)
        · refine g_iload_n dX10_ring_51 rfl ?_
          refine g_iconst (nI 1) dX10_ring_52 ki_1 ?_
          refine g_icmp_ne_n 63 dX10_ring_53 (by decide) (by omega) (by omega) (fun c53 => ?_) (fun c53 => ?_)
          · refine g_iload_n dX10_ring_63 rfl ?_
            refine g_bipush (nI 10) dX10_ring_64 kb_10 ?_
            first | refine g_isub_n dX10_ring_66 (by omega) ?_ | refine g_isub dX10_ring_66 ?_
            refine g_aload_n dX10_ring_67 rfl ?_
            refine g_geti (j := 16) dX10_ring_68 gc10 rfl (by decide) rfl (by decide) fl_M_206 ?_
            try simp (disch := omega) only [o2, o3]
            refine g_icmp_ge_n 86 dX10_ring_71 (by decide) (by omega) (by omega) (fun c71 => ?_) (fun c71 => ?_)
            · refine g_iconst ((-1)) dX10_ring_86 ki_m1 ?_
              refine g_ireturn dX10_ring_87 rfl (by first | rfl | exact nar_bI _) ?_
              exact hf _
            · have e5 := (o5 (u - 10) (by omega)).1
              refine g_aload_n dX10_ring_74 rfl ?_
              refine g_getr (j := 15) dX10_ring_75 gc10 rfl (by decide) rfl (by decide) fl_M_41 ?_
              refine g_iload_n dX10_ring_78 rfl ?_
              refine g_bipush (nI 10) dX10_ring_79 kb_10 ?_
              first | refine g_isub_n dX10_ring_81 (by omega) ?_ | refine g_isub dX10_ring_81 ?_
              refine g_iald_n dX10_ring_82 (by first | rfl | assumption) (by first | decide | assumption) (by omega) (by omega) ?_
              try simp (disch := omega) only [e5]
              refine g_goto 87 dX10_ring_83 (by decide) ?_
              refine g_ireturn dX10_ring_87 rfl (by first | rfl | exact nar_bI _) ?_
              exact hf _
          · refine g_aload_n dX10_ring_56 rfl ?_
            refine g_geti (j := 16) dX10_ring_57 gc10 rfl (by decide) rfl (by decide) fl_M_206 ?_
            try simp (disch := omega) only [e5]
            refine g_goto 87 dX10_ring_60 (by decide) ?_
            refine g_ireturn dX10_ring_87 rfl (by first | rfl | exact nar_bI _) ?_
            exact hf _
        · refine g_aload_n dX10_ring_44 rfl ?_
          refine g_geti (j := 17) dX10_ring_45 gc10 rfl (by decide) rfl (by decide) fl_M_203 ?_
          try simp (disch := omega) only [e5]
          refine g_goto 87 dX10_ring_48 (by decide) ?_
          refine g_ireturn dX10_ring_87 rfl (by first | rfl | exact nar_bI _) ?_
          exact hf _
      · refine g_bipush ((-5)) dX10_ring_37 kb_m5 ?_
        refine g_ireturn dX10_ring_39 rfl (by first | rfl | exact nar_bI _) ?_
        exact hf _
    refine Call_of (m := mM_ring) [some (.ref 57), some (.int (nI u))] rfl (fun G => Nat.le_of_ble_eq_true rfl) (fun G => rfl) ?_
    refine g_iload_n dX10_ring_0 rfl ?_
    refine g_i2l dX10_ring_1 ?_
    refine g_lconst (0) dX10_ring_2 (by decide) ?_
    refine g_lconst (1) dX10_ring_3 (by decide) ?_
    refine g_calls3 dX10_ring_4 clM_in ml_M_68 (Nat.le_of_ble_eq_true rfl) ?_
    refine SM_in _ _ _ ?_
    rw [inJ_R01]
    by_cases h1 : 0 ≤ (nI u).toInt ∧ (nI u).toInt ≤ 1
    · rw [decide_eq_true h1]
      refine g_if_ne_tt 26 dX10_ring_7 (by decide) ?_
      exact hgo
    · rw [decide_eq_false h1]
      refine g_if_ne_ff 26 dX10_ring_7 (by decide) ?_
      refine g_iload_n dX10_ring_10 rfl ?_
      refine g_i2l dX10_ring_11 ?_
      refine g_ldc2w (10) dX10_ring_12 kl_M_128 ?_
      refine g_ldc2w (13) dX10_ring_15 kl_M_218 ?_
      refine g_calls3 dX10_ring_18 clM_in ml_M_68 (Nat.le_of_ble_eq_true rfl) ?_
      refine SM_in _ _ _ ?_
      rw [inJ_R10, decide_eq_true (by omega)]
      refine g_if_ne_tt 26 dX10_ring_21 (by decide) ?_
      exact hgo
  · skip
    refine Call_of (m := mM_ring) [some (.ref 57), some (.int x)] rfl (fun G => Nat.le_of_ble_eq_true rfl) (fun G => rfl) ?_
    refine g_iload_n dX10_ring_0 rfl ?_
    refine g_i2l dX10_ring_1 ?_
    refine g_lconst (0) dX10_ring_2 (by decide) ?_
    refine g_lconst (1) dX10_ring_3 (by decide) ?_
    refine g_calls3 dX10_ring_4 clM_in ml_M_68 (Nat.le_of_ble_eq_true rfl) ?_
    refine SM_in _ _ _ ?_
    rw [inJ_R01, decide_eq_false (by omega)]
    refine g_if_ne_ff 26 dX10_ring_7 (by decide) ?_
    refine g_iload_n dX10_ring_10 rfl ?_
    refine g_i2l dX10_ring_11 ?_
    refine g_ldc2w (10) dX10_ring_12 kl_M_128 ?_
    refine g_ldc2w (13) dX10_ring_15 kl_M_218 ?_
    refine g_calls3 dX10_ring_18 clM_in ml_M_68 (Nat.le_of_ble_eq_true rfl) ?_
    refine SM_in _ _ _ ?_
    rw [inJ_R10, decide_eq_false (by omega)]
    refine g_if_ne_ff 26 dX10_ring_21 (by decide) ?_
    refine g_iconst ((-1)) dX10_ring_24 ki_m1 ?_
    refine g_ireturn dX10_ring_25 rfl (by first | rfl | exact nar_bI _) ?_
    exact h M _ FrM.rf hM
/-! ring on both sides: the answers are not compared -/
theorem both_ring (x : Int32) : BothW mF_ring mM_ring [.int x] := by
  intro M ⟨S, b, S', n, t, pn, pf, h1, h2, h3, h4⟩
  refine SF_ring x M S _ h2 h1 (fun M1 y1 hf1 hB1 => ?_)
  have h4' := h4.keep (fun k j hk => hf1 k j (Or.inl hk))
  refine ⟨IsI.rf, ?_⟩
  refine SM_ring x M1 S _ (MK.frC h3 hf1) h4'.2.2.2.2.2.2.2.2 h1 (fun M2 y2 hf2 hM2 => ?_)
  exact ⟨IsI.rf, S, b, S', n, t, pn, pf, h1, hB1.frM hf2, hM2, h4'.keep (fun k j hk => hf2 k j (Or.inl hk))⟩
