/-! turn in the class -/
noncomputable def nxS (S : BS) : BS := hnR S (bsR S).2 (bsR S).1
noncomputable def tuR (S : BS) : Nat → BS × Nat
  | 0 => (S, 0)
  | k + 1 => if (bsR (tuR S k).1).1 = 0 then tuR S k else (nxS (tuR S k).1, (tuR S k).2 + 1)
theorem tuR_stay {S : BS} {k : Nat} (h : (bsR (tuR S k).1).1 = 0) : ∀ t, tuR S (k + t) = tuR S k
  | 0 => rfl
  | t + 1 => by
    rw [← Nat.add_assoc, tuR, tuR_stay h t, if_pos h]
noncomputable def f_turn (x : Int32) (S : BS) : Int32 × BS := if 1 ≤ x.toInt ∧ x.toInt ≤ 24 then (nI (tuR S x.toInt.toNat).2, (tuR S x.toInt.toNat).1) else (-2, S)
theorem ring_of {S : BS} (h : BstP S (fun _ _ => True) (bsR S).1 (bsR S).2) (h0 : (bsR S).1 ≠ 0) : ringOK S (bsR S).2 (bsR S).1 := by
  rcases h with h | h
  · exact absurd h.1 h0
  · exact h.1
theorem SF_turn (x : Int32) (M : Mm) (S : BS) (Q : Po) (hB : BK M S) (hH : HM S) (h : ∀ M', FrC M M' → BK M' (f_turn x S).2 → Q M' (some (.int (f_turn x S).1))) : Call 60 mF_turn [.ref 0, .int x] M Q := by
  unfold f_turn at h
  have hbad : ¬ (1 ≤ x.toInt ∧ x.toInt ≤ 24) → Go mF_turn 60 Q 11 [some (.ref 0), some (.int x), none] [] M := by
    intro hx
    rw [if_neg hx] at h
    refine g_bipush ((-2)) dX9_turn_11 kb_m2 ?_
    refine g_ireturn dX9_turn_13 rfl (by first | rfl | exact nar_bI _) ?_
    exact h M FrC.rf hB
  refine Call_of (m := mF_turn) [some (.ref 0), some (.int x), none] rfl (fun G => Nat.le_of_ble_eq_true rfl) (fun G => rfl) ?_
  refine g_iload_n dX9_turn_0 rfl ?_
  refine g_iconst (nI 1) dX9_turn_1 ki_1 ?_
  refine g_icmp_lt 11 dX9_turn_2 (by decide) (fun c2 => ?_) (fun c2 => ?_)
  · have c2 := Int32.lt_iff_toInt_lt.mp c2
    rw [nI_toInt (by omega)] at c2
    exact hbad (by omega)
  · have c2 := Int32.le_iff_toInt_le.mp (by simpa using c2)
    rw [nI_toInt (by omega)] at c2
    refine g_iload_n dX9_turn_5 rfl ?_
    refine g_bipush (nI 24) dX9_turn_6 kb_24 ?_
    refine g_icmp_le 14 dX9_turn_8 (by decide) (fun c8 => ?_) (fun c8 => ?_)
    · have c8 := Int32.le_iff_toInt_le.mp c8
      rw [nI_toInt (by omega)] at c8
      rw [if_pos ⟨by omega, by omega⟩] at h
      obtain ⟨k, hk⟩ : ∃ k : Nat, x.toInt = (k : Int) := ⟨x.toInt.toNat, by omega⟩
      rw [show x.toInt.toNat = k by omega] at h
      obtain rfl : x = nI k := t_nI hk (by omega)
      refine g_iconst (nI 0) dX9_turn_14 ki_0 ?_
      refine g_ist3_2 dX9_turn_15 (by decide) rfl ?_
      refine loop_up (P := fun i => ∀ M', EqO [2, 35, 36, 37, 38, 39, 40] M M' → (tuR S i).2 = i → HM (tuR S i).1 → BK M' (tuR S i).1 → Go mF_turn 60 Q 16 [some (.ref 0), some (.int (nI k)), some (.int (nI i))] [] M') k ?_ 0 (Nat.zero_le _) M EqO.rf rfl hH hB
      intro i hi ih M' hE h2 hH' hB'
      refine g_iload_n dX9_turn_16 rfl ?_
      refine g_iload_n dX9_turn_17 rfl ?_
      refine g_icmp_ge_n 44 dX9_turn_18 (by decide) (by omega) (by omega) (fun c18 => ?_) (fun c18 => ?_)
      · refine g_iload_n dX9_turn_44 rfl ?_
        refine g_ireturn dX9_turn_45 rfl (by first | rfl | exact nar_bI _) ?_
        obtain rfl : i = k := by omega
        rw [h2] at h
        exact h M' (FrC.of hE (by decide)) hB'
      · refine g_aload_n dX9_turn_21 rfl ?_
        refine g_getr (j := 5) dX9_turn_22 gc9 rfl (by decide) rfl (by decide) fl_F_45 ?_
        refine g_call0 dX9_turn_25 clG_findBest ml_F_231 gc5 rfl rfl (by decide) (Nat.le_of_ble_eq_true rfl) ?_
        refine SG_findBest hB' hH' (fun M1 m b g hE1 hM1 => ?_)
        obtain ⟨o1, o2, o3, o4, o5, o6⟩ := hM1.out
        have hB1 : BK M1 (tuR S i).1 := hB'.eqO hE1 (by decide)
        have hE2 : EqO [2, 35, 36, 37, 38, 39, 40] M M1 := hE.tr (hE1.sub (by decide))
        by_cases h0 : (bsR (tuR S i).1).1 = 0
        · rw [show decide (0 < m) = false from decide_eq_false (by omega)]
          have e := tuR_stay h0 (k - i)
          rw [show i + (k - i) = k by omega] at e
          rw [e, h2] at h
          refine g_if_eq_ff 44 dX9_turn_28 (by decide) ?_
          refine g_iload_n dX9_turn_44 rfl ?_
          refine g_ireturn dX9_turn_45 rfl (by first | rfl | exact nar_bI _) ?_
          exact h M1 (FrC.of hE2 (by decide)) hB1
        · rw [show decide (0 < m) = true from decide_eq_true (by omega)]
          have hr := ring_of o6 h0
          refine g_if_eq_tt 44 dX9_turn_28 (by decide) ?_
          refine g_aload_n dX9_turn_31 rfl ?_
          refine g_getr (j := 5) dX9_turn_32 gc9 rfl (by decide) rfl (by decide) fl_F_45 ?_
          refine g_call0 dX9_turn_35 clG_handOn ml_F_241 gc5 rfl rfl (by decide) (Nat.le_of_ble_eq_true rfl) ?_
          refine SG_handOn hB1 hr o2 (fun j hj => (o5 j hj).1) (fun M2 hE3 hB2 => ?_)
          have e : tuR S (i + 1) = (nxS (tuR S i).1, (tuR S i).2 + 1) := by rw [tuR, if_neg h0]
          first | refine g_incn3_2 dX9_turn_38 ki_1 (by decide) rfl ?_ | refine g_incg3_2 (nI 1) dX9_turn_38 ki_1 (by decide) rfl ?_
          refine g_goto 16 dX9_turn_41 (by decide) ?_
          refine ih (by omega) M2 (hE2.tr (hE3.sub (by decide))) (by rw [e, h2]) (by rw [e]; exact HM_hnR hH' hr) (by rw [e]; exact hB2)
    · have c8 := Int32.lt_iff_toInt_lt.mp (Int32.not_le.mp c8)
      rw [nI_toInt (by omega)] at c8
      exact hbad (by omega)
