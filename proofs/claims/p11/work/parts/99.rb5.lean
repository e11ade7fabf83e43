/-! turn in the reference, both -/
theorem inJ_T (x : Int32) : inJ x.toInt64 1 24 = decide (1 ≤ x.toInt ∧ x.toInt ≤ 24) := by
  unfold inJ
  rw [Int32.toInt_toInt64]
  rfl
theorem FrM.ofH {M M' : Mm} (h : EqH M M') : FrM M M' := fun k j hk => by
  unfold okO at hk
  exact h k j (by omega) (by omega) (by omega)
theorem SM_turn (x : Int32) (M : Mm) (S : BS) (Q : Po) (hM : MK (M 58) S) (hC : MC M) (hH : HM S) (h : ∀ M', FrM M M' → MK (M' 58) (f_turn x S).2 → Q M' (some (.int (f_turn x S).1))) : Call 60 mM_turn [.ref 57, .int x] M Q := by
  unfold f_turn at h
  refine Call_of (m := mM_turn) [some (.ref 57), some (.int x), none] rfl (fun G => Nat.le_of_ble_eq_true rfl) (fun G => rfl) ?_
  refine g_iload_n dX10_turn_0 rfl ?_
  refine g_i2l dX10_turn_1 ?_
  refine g_lconst (1) dX10_turn_2 (by decide) ?_
  refine g_ldc2w (24) dX10_turn_3 kl_M_223 ?_
  refine g_calls3 dX10_turn_6 clM_in ml_M_68 (Nat.le_of_ble_eq_true rfl) ?_
  refine SM_in _ _ _ ?_
  rw [inJ_T]
  by_cases hx : 1 ≤ x.toInt ∧ x.toInt ≤ 24
  · rw [decide_eq_true hx]
    rw [if_pos hx] at h
    obtain ⟨k, hk⟩ : ∃ k : Nat, x.toInt = (k : Int) := ⟨x.toInt.toNat, by omega⟩
    rw [show x.toInt.toNat = k by omega] at h
    obtain rfl : x = nI k := t_nI hk (by omega)
    refine g_if_ne_tt 15 dX10_turn_9 (by decide) ?_
    refine g_iconst (nI 0) dX10_turn_15 ki_0 ?_
    refine g_ist3_2 dX10_turn_16 (by decide) rfl ?_
    refine g_aload_n dX10_turn_17 rfl ?_
    refine g_call0 dX10_turn_18 clM_findsRing ml_M_220 gc10 rfl rfl (by decide) (Nat.le_of_ble_eq_true rfl) ?_
    refine SM_findsRing hM hH (fun M1 m b g hE1 hB1 => ?_)
    obtain ⟨_, o2, _, o4, o5, o6⟩ := hB1.out
    refine loop_up (P := fun i => ∀ M', FrM M M' → (tuR S i).2 = i → HM (tuR S i).1 → MK (M' 58) (tuR S i).1 → M' 57 16 = nI (bsR (tuR S i).1).1 → (bsR (tuR S i).1).1 ≤ 4 → (∀ j, j < (bsR (tuR S i).1).1 → M' 68 j = nI ((bsR (tuR S i).1).2 j)) → BstP (tuR S i).1 (fun _ _ => True) (bsR (tuR S i).1).1 (bsR (tuR S i).1).2 → Go mM_turn 60 Q 21 [some (.ref 57), some (.int (nI k)), some (.int (nI i))] [] M') k ?_ 0 (Nat.zero_le _) M1 (FrM.ofH hE1) rfl hH (by rw [hE1.r58]; exact hM) o2 o4 (fun j hj => (o5 j hj).1) o6
    intro i hi ih M' hE h2 hH' hM' p2 p4 p5 p6
    refine g_iload_n dX10_turn_21 rfl ?_
    refine g_iload_n dX10_turn_22 rfl ?_
    refine g_icmp_ge_n 47 dX10_turn_23 (by decide) (by omega) (by omega) (fun c23 => ?_) (fun c23 => ?_)
    · refine g_iload_n dX10_turn_47 rfl ?_
      refine g_ireturn dX10_turn_48 rfl (by first | rfl | exact nar_bI _) ?_
      obtain rfl : i = k := by omega
      rw [h2] at h
      exact h M' hE hM'
    · skip
      refine g_aload_n dX10_turn_26 rfl ?_
      refine g_geti (j := 16) dX10_turn_27 gc10 rfl (by decide) rfl (by decide) fl_M_206 ?_
      try simp (disch := omega) only [p2]
      refine g_if_le_n 47 dX10_turn_30 (by decide) (by omega) (fun c30 => ?_) (fun c30 => ?_)
      · refine g_iload_n dX10_turn_47 rfl ?_
        refine g_ireturn dX10_turn_48 rfl (by first | rfl | exact nar_bI _) ?_
        have h0 : (bsR (tuR S i).1).1 = 0 := by omega
        have e := tuR_stay h0 (k - i)
        rw [show i + (k - i) = k by omega] at e
        rw [e, h2] at h
        exact h M' hE hM'
      · have h0 : (bsR (tuR S i).1).1 ≠ 0 := by omega
        have hr := ring_of p6 h0
        have e : tuR S (i + 1) = (nxS (tuR S i).1, (tuR S i).2 + 1) := by rw [tuR, if_neg h0]
        refine g_aload_n dX10_turn_33 rfl ?_
        refine g_call0 dX10_turn_34 clM_doesRing ml_M_225 gc10 rfl rfl (by decide) (Nat.le_of_ble_eq_true rfl) ?_
        refine SM_doesRing hM' hr p2 p5 (fun M2 hE2 hM2 => ?_)
        first | refine g_incn3_2 dX10_turn_37 ki_1 (by decide) rfl ?_ | refine g_incg3_2 (nI 1) dX10_turn_37 ki_1 (by decide) rfl ?_
        refine g_aload_n dX10_turn_40 rfl ?_
        refine g_call0 dX10_turn_41 clM_findsRing ml_M_220 gc10 rfl rfl (by decide) (Nat.le_of_ble_eq_true rfl) ?_
        refine SM_findsRing hM2 (HM_hnR hH' hr) (fun M3 m b g hE3 hB3 => ?_)
        obtain ⟨_, o2, _, o4, o5, o6⟩ := hB3.out
        refine g_goto 21 dX10_turn_44 (by decide) ?_
        refine ih (by omega) M3 (hE.tr ((FrM.of hE2 (by decide)).tr (FrM.ofH hE3))) (by rw [e, h2]) (by rw [e]; exact HM_hnR hH' hr) (by rw [e, hE3.r58]; exact hM2) (by rw [e]; exact o2) (by rw [e]; exact o4) (by rw [e]; exact fun j hj => (o5 j hj).1) (by rw [e]; exact o6)
  · rw [decide_eq_false hx]
    rw [if_neg hx] at h
    refine g_if_ne_ff 15 dX10_turn_9 (by decide) ?_
    refine g_bipush ((-2)) dX10_turn_12 kb_m2 ?_
    refine g_ireturn dX10_turn_14 rfl (by first | rfl | exact nar_bI _) ?_
    exact h M FrM.rf hM
