/-! ring in the class -/
noncomputable def rvR (S : BS) (u : Nat) : Int32 := if (bsR S).1 = 0 then -5 else if u = 0 then nI (bgR S) else if u = 1 then nI (bsR S).1 else if u - 10 < (bsR S).1 then nI ((bsR S).2 (u - 10)) else -1
noncomputable def f_ring (x : Int32) (S : BS) : Int32 × BS := (if (0 ≤ x.toInt ∧ x.toInt ≤ 1) ∨ (10 ≤ x.toInt ∧ x.toInt ≤ 13) then rvR S x.toInt.toNat else -1, S)
theorem SG_gain {d : Nat} {M : Mm} {Q : Po} {v : Int32} (e : M 35 9 = v) (h : Q M (some (.int v))) : Call (d + 1) mG_gain [.ref 35] M Q := by
  refine Call_of (m := mG_gain) [some (.ref 35)] rfl (fun G => Nat.le_of_ble_eq_true rfl) (fun G => rfl) ?_
  refine g_aload_n dX5_gain_0 rfl ?_
  refine g_geti (j := 9) dX5_gain_1 gc5 rfl (by decide) rfl (by decide) fl_G_41 ?_
  refine g_ireturn dX5_gain_4 rfl (by first | rfl | exact nar_bI _) ?_
  rw [e]
  exact h
theorem SG_size {d : Nat} {M : Mm} {Q : Po} {v : Int32} (e : M 35 8 = v) (h : Q M (some (.int v))) : Call (d + 1) mG_size [.ref 35] M Q := by
  refine Call_of (m := mG_size) [some (.ref 35)] rfl (fun G => Nat.le_of_ble_eq_true rfl) (fun G => rfl) ?_
  refine g_aload_n dX5_size_0 rfl ?_
  refine g_geti (j := 8) dX5_size_1 gc5 rfl (by decide) rfl (by decide) fl_G_38 ?_
  refine g_ireturn dX5_size_4 rfl (by first | rfl | exact nar_bI _) ?_
  rw [e]
  exact h
theorem SG_dutyAt {d : Nat} {M : Mm} {Q : Po} {n z c : Nat} (e : M 35 8 = nI n) (hn : n ≤ 4) (hz : z < n) (e2 : M 40 z = nI c) (h : Q M (some (.int (nI c)))) : Call (d + 1) mG_dutyAt [.ref 35, .int (nI z)] M Q := by
  refine Call_of (m := mG_dutyAt) [some (.ref 35), some (.int (nI z))] rfl (fun G => Nat.le_of_ble_eq_true rfl) (fun G => rfl) ?_
  refine g_iload_n dX5_dutyAt_0 rfl ?_
  refine g_if_lt_n 26 dX5_dutyAt_1 (by decide) (by omega) ?_
  refine g_iload_n dX5_dutyAt_4 rfl ?_
  refine g_aload_n dX5_dutyAt_5 rfl ?_
  refine g_geti (j := 8) dX5_dutyAt_6 gc5 rfl (by decide) rfl (by decide) fl_G_38 ?_
  try simp (disch := omega) only [e, e2]
  refine g_icmp_ge_n 26 dX5_dutyAt_9 (by decide) (by omega) (by omega) (fun c9 => ?_) (fun c9 => ?_)
  · exact absurd hz (by omega)
  · refine g_iload_n dX5_dutyAt_12 rfl ?_
    refine g_iconst (nI 4) dX5_dutyAt_13 ki_4 ?_
    refine g_icmp_ge_n 26 dX5_dutyAt_14 (by decide) (by omega) (by omega) (fun c14 => ?_) (fun c14 => ?_)
    · exact absurd hz (by omega)
    · refine g_aload_n dX5_dutyAt_17 rfl ?_
      refine g_getr (j := 5) dX5_dutyAt_18 gc5 rfl (by decide) rfl (by decide) fl_G_24 ?_
      refine g_iload_n dX5_dutyAt_21 rfl ?_
      refine g_iald_n dX5_dutyAt_22 (by first | rfl | assumption) (by first | decide | assumption) (by omega) (by omega) ?_
      try simp (disch := omega) only [e, e2]
      refine g_goto 27 dX5_dutyAt_23 (by decide) ?_
      refine g_ireturn dX5_dutyAt_27 rfl (by first | rfl | exact nar_bI _) ?_
      exact h
theorem SF_ring (x : Int32) (M : Mm) (S : BS) (Q : Po) (hB : BK M S) (hH : HM S) (h : ∀ M', FrC M M' → BK M' (f_ring x S).2 → Q M' (some (.int (f_ring x S).1))) : Call 60 mF_ring [.ref 0, .int x] M Q := by
  unfold f_ring at h
  by_cases hx : (0 ≤ x.toInt ∧ x.toInt ≤ 1) ∨ (10 ≤ x.toInt ∧ x.toInt ≤ 13)
  · rw [if_pos hx] at h
    obtain ⟨u, hu⟩ : ∃ u : Nat, x.toInt = (u : Int) := ⟨x.toInt.toNat, by omega⟩
    rw [show x.toInt.toNat = u by omega] at h
    obtain rfl : x = nI u := t_nI hu (by omega)
    rw [hu] at hx
    have hgo : ∀ v2 : Value, Go mF_ring 60 Q 33 [some (.ref 0), some (.int (nI u)), some v2] [] M := by
      intro v2
      refine g_aload_n dX9_ring_33 rfl ?_
      refine g_getr (j := 5) dX9_ring_34 gc9 rfl (by decide) rfl (by decide) fl_F_45 ?_
      refine g_call0 dX9_ring_37 clG_findBest ml_F_231 gc5 rfl rfl (by decide) (Nat.le_of_ble_eq_true rfl) ?_
      refine SG_findBest hB hH (fun M1 m b g hE1 hM1 => ?_)
      obtain ⟨o1, o2, o3, o4, o5, o6⟩ := hM1.out
      have hB1 : BK M1 S := hB.eqO hE1 (by decide)
      have hf := h M1 (FrC.of hE1 (by decide)) hB1
      unfold rvR at hf
      by_cases h0 : (bsR S).1 = 0
      · rw [show decide (0 < m) = false from decide_eq_false (by omega)]
        rw [if_pos h0] at hf
        refine g_if_ne_ff 46 dX9_ring_40 (by decide) ?_
        refine g_bipush ((-5)) dX9_ring_43 kb_m5 ?_
        refine g_ireturn dX9_ring_45 rfl (by first | rfl | exact nar_bI _) ?_
        exact hf
      · rw [show decide (0 < m) = true from decide_eq_true (by omega)]
        rw [if_neg h0] at hf
        refine g_if_ne_tt 46 dX9_ring_40 (by decide) ?_
        refine g_iload_n dX9_ring_46 rfl ?_
        refine g_if_ne_n 58 dX9_ring_47 (by decide) (by omega) (fun c47 => ?_) (fun c47 => ?_)
        · rw [if_neg (by omega)] at hf
          refine g_iload_n dX9_ring_58 rfl ?_
          refine g_iconst (nI 1) dX9_ring_59 ki_1 ?_
          refine g_icmp_ne_n 71 dX9_ring_60 (by decide) (by omega) (by omega) (fun c60 => ?_) (fun c60 => ?_)
          · rw [if_neg (by omega)] at hf
            refine g_iload_n dX9_ring_71 rfl ?_
            refine g_bipush (nI 10) dX9_ring_72 kb_10 ?_
            first | refine g_isub_n dX9_ring_74 (by omega) ?_ | refine g_isub dX9_ring_74 ?_
            refine g_aload_n dX9_ring_75 rfl ?_
            refine g_getr (j := 5) dX9_ring_76 gc9 rfl (by decide) rfl (by decide) fl_F_45 ?_
            refine g_call0 dX9_ring_79 clG_size ml_F_237 gc5 rfl rfl (by decide) (Nat.le_of_ble_eq_true rfl) ?_
            refine SG_size o2 ?_
            refine g_icmp_ge_n 99 dX9_ring_82 (by decide) (by omega) (by omega) (fun c82 => ?_) (fun c82 => ?_)
            · rw [if_neg (by omega)] at hf
              refine g_iconst ((-1)) dX9_ring_99 ki_m1 ?_
              refine g_ireturn dX9_ring_100 rfl (by first | rfl | exact nar_bI _) ?_
              exact hf
            · rw [if_pos (by omega)] at hf
              refine g_aload_n dX9_ring_85 rfl ?_
              refine g_getr (j := 5) dX9_ring_86 gc9 rfl (by decide) rfl (by decide) fl_F_45 ?_
              refine g_iload_n dX9_ring_89 rfl ?_
              refine g_bipush (nI 10) dX9_ring_90 kb_10 ?_
              first | refine g_isub_n dX9_ring_92 (by omega) ?_ | refine g_isub dX9_ring_92 ?_
              refine g_call1 dX9_ring_93 clG_dutyAt ml_F_240 gc5 rfl rfl (by decide) (Nat.le_of_ble_eq_true rfl) ?_
              refine SG_dutyAt o2 o4 (by omega) (o5 (u - 10) (by omega)).1 ?_
              refine g_goto 100 dX9_ring_96 (by decide) ?_
              refine g_ireturn dX9_ring_100 rfl (by first | rfl | exact nar_bI _) ?_
              exact hf
          · rw [if_pos (by omega)] at hf
            refine g_aload_n dX9_ring_63 rfl ?_
            refine g_getr (j := 5) dX9_ring_64 gc9 rfl (by decide) rfl (by decide) fl_F_45 ?_
            refine g_call0 dX9_ring_67 clG_size ml_F_237 gc5 rfl rfl (by decide) (Nat.le_of_ble_eq_true rfl) ?_
            refine SG_size o2 ?_
            refine g_ireturn dX9_ring_70 rfl (by first | rfl | exact nar_bI _) ?_
            exact hf
        · rw [if_pos (by omega)] at hf
          refine g_aload_n dX9_ring_50 rfl ?_
          refine g_getr (j := 5) dX9_ring_51 gc9 rfl (by decide) rfl (by decide) fl_F_45 ?_
          refine g_call0 dX9_ring_54 clG_gain ml_F_234 gc5 rfl rfl (by decide) (Nat.le_of_ble_eq_true rfl) ?_
          refine SG_gain o3 ?_
          refine g_ireturn dX9_ring_57 rfl (by first | rfl | exact nar_bI _) ?_
          exact hf
    have hgo17 : ∀ v2 : Nat, (v2 = 0 → u ≤ 1) → v2 < 2 → Go mF_ring 60 Q 17 [some (.ref 0), some (.int (nI u)), none] [.int (nI v2)] M := by
      intro v2 h1 h2
      refine g_ist3_2 dX9_ring_17 (by decide) rfl ?_
      refine g_iload_n dX9_ring_18 rfl ?_
      refine g_if_eq_n 33 dX9_ring_19 (by decide) (by omega) (fun c19 => ?_) (fun c19 => ?_)
      · exact hgo _
      · refine g_iload_n dX9_ring_22 rfl ?_
        refine g_iconst (nI 1) dX9_ring_23 ki_1 ?_
        refine g_icmp_eq_n 33 dX9_ring_24 (by decide) (by omega) (by omega) (fun c24 => ?_) (fun c24 => ?_)
        · exact hgo _
        · refine g_iload_n dX9_ring_27 rfl ?_
          refine g_if_ne_n 33 dX9_ring_28 (by decide) (by omega) (fun c28 => ?_) (fun c28 => ?_)
          · exact hgo _
          · exact absurd h1 (by omega)
    refine Call_of (m := mF_ring) [some (.ref 0), some (.int (nI u)), none] rfl (fun G => Nat.le_of_ble_eq_true rfl) (fun G => rfl) ?_
    refine g_iload_n dX9_ring_0 rfl ?_
    refine g_bipush (nI 10) dX9_ring_1 kb_10 ?_
    refine g_icmp_lt_n 16 dX9_ring_3 (by decide) (by omega) (by omega) (fun c3 => ?_) (fun c3 => ?_)
    · skip
      refine g_iconst (nI 0) dX9_ring_16 ki_0 ?_
      exact hgo17 0 (by omega) (by omega)
    · refine g_iload_n dX9_ring_6 rfl ?_
      refine g_bipush (nI 14) dX9_ring_7 kb_14 ?_
      refine g_icmp_ge_n 16 dX9_ring_9 (by decide) (by omega) (by omega) (fun c9 => ?_) (fun c9 => ?_)
      · skip
        refine g_iconst (nI 0) dX9_ring_16 ki_0 ?_
        exact hgo17 0 (by omega) (by omega)
      · refine g_iconst (nI 1) dX9_ring_12 ki_1 ?_
        refine g_goto 17 dX9_ring_13 (by decide) ?_
        exact hgo17 1 (by omega) (by omega)
  · rw [if_neg hx] at h
    have hgo17 : ∀ v2 : Nat, v2 = 0 → Go mF_ring 60 Q 17 [some (.ref 0), some (.int x), none] [.int (nI v2)] M := by
      intro v2 h1
      refine g_ist3_2 dX9_ring_17 (by decide) rfl ?_
      refine g_iload_n dX9_ring_18 rfl ?_
      refine g_if_eq 33 dX9_ring_19 (by decide) (fun c19 => ?_) (fun c19 => ?_)
      · exfalso
        apply hx
        rw [c19]
        exact Or.inl (by decide)
      · refine g_iload_n dX9_ring_22 rfl ?_
        refine g_iconst (nI 1) dX9_ring_23 ki_1 ?_
        refine g_icmp_eq 33 dX9_ring_24 (by decide) (fun c24 => ?_) (fun c24 => ?_)
        · exfalso
          apply hx
          rw [c24]
          exact Or.inl (by decide)
        · refine g_iload_n dX9_ring_27 rfl ?_
          refine g_if_ne_n 33 dX9_ring_28 (by decide) (by omega) (fun c28 => ?_) (fun c28 => ?_)
          · exact absurd h1 (by omega)
          · refine g_iconst ((-1)) dX9_ring_31 ki_m1 ?_
            refine g_ireturn dX9_ring_32 rfl (by first | rfl | exact nar_bI _) ?_
            exact h M FrC.rf hB
    have hno : Go mF_ring 60 Q 16 [some (.ref 0), some (.int x), none] [] M := by
      refine g_iconst (nI 0) dX9_ring_16 ki_0 ?_
      exact hgo17 0 rfl
    refine Call_of (m := mF_ring) [some (.ref 0), some (.int x), none] rfl (fun G => Nat.le_of_ble_eq_true rfl) (fun G => rfl) ?_
    refine g_iload_n dX9_ring_0 rfl ?_
    refine g_bipush (nI 10) dX9_ring_1 kb_10 ?_
    refine g_icmp_lt 16 dX9_ring_3 (by decide) (fun c3 => ?_) (fun c3 => ?_)
    · exact hno
    · have c3 := Int32.le_iff_toInt_le.mp (Int32.not_lt.mp c3)
      rw [nI_toInt (by omega)] at c3
      refine g_iload_n dX9_ring_6 rfl ?_
      refine g_bipush (nI 14) dX9_ring_7 kb_14 ?_
      refine g_icmp_ge 16 dX9_ring_9 (by decide) (fun c9 => ?_) (fun c9 => ?_)
      · exact hno
      · have c9 := Int32.lt_iff_toInt_lt.mp (Int32.not_le.mp c9)
        rw [nI_toInt (by omega)] at c9
        exact absurd hx (fun q => q (Or.inr ⟨by omega, by omega⟩))
