/-! ring in the class: what it does; its answer is not compared -/
theorem SG_gain {d : Nat} {M : Mm} {Q : Po} {v : Int32} (e : M 35 9 = v) (h : Q M (some (.int v))) : Call (d + 1) mG_gain [.ref 35] M Q := by
  refine Call_of (m := mG_gain) [some (.ref 35)] rfl (fun G => Nat.le_of_ble_eq_true rfl) (fun G => rfl) ?_
  refine g_aload_n dX5_gain_0 rfl ?_
  refine g_geti (j := 9) dX5_gain_1 gc5 rfl (by decide) rfl (by decide) fl_G_41 ?_
  refine g_ireturn dX5_gain_4 rfl (by first | rfl | exact nar_bI _) ?_
  rw [e]
  exact h
theorem SG_size {d : Nat} {M : Mm} {Q : Po} {v : Int32} (e : M 35 8 = v) (h : Q M (some (.int v))) : Call (d + 1) mG_size [.ref 35] M Q := by
  refine Call_of (m := mG_size) [some (.ref 35)] rfl (fun G => Nat.le_of_ble_eq_true rfl) (fun G => rfl) ?_
  refine g_aload_n dX5_size_0 rfl ?_
  refine g_geti (j := 8) dX5_size_1 gc5 rfl (by decide) rfl (by decide) fl_G_38 ?_
  refine g_ireturn dX5_size_4 rfl (by first | rfl | exact nar_bI _) ?_
  rw [e]
  exact h
theorem SG_dutyAtX {d : Nat} {M : Mm} {Q : Po} {n : Nat} {z : Int32} (e : M 35 8 = nI n) (hn : n ≤ 4) (h : ∀ y : Int32, Q M (some (.int y))) : Call (d + 1) mG_dutyAt [.ref 35, .int z] M Q := by
  refine Call_of (m := mG_dutyAt) [some (.ref 35), some (.int z)] rfl (fun G => Nat.le_of_ble_eq_true rfl) (fun G => rfl) ?_
  refine g_iload_n dX5_dutyAt_0 rfl ?_
  refine g_if_lt 26 dX5_dutyAt_1 (by decide) (fun c1 => ?_) (fun c1 => ?_)
  · refine g_iconst ((-1)) dX5_dutyAt_26 ki_m1 ?_
    refine g_ireturn dX5_dutyAt_27 rfl (by first | rfl | exact nar_bI _) ?_
    exact h _
  · refine g_iload_n dX5_dutyAt_4 rfl ?_
    refine g_aload_n dX5_dutyAt_5 rfl ?_
    refine g_geti (j := 8) dX5_dutyAt_6 gc5 rfl (by decide) rfl (by decide) fl_G_38 ?_
    try simp (disch := omega) only [e]
    refine g_icmp_ge 26 dX5_dutyAt_9 (by decide) (fun c9 => ?_) (fun c9 => ?_)
    · refine g_iconst ((-1)) dX5_dutyAt_26 ki_m1 ?_
      refine g_ireturn dX5_dutyAt_27 rfl (by first | rfl | exact nar_bI _) ?_
      exact h _
    · obtain ⟨u, hu, rfl⟩ := inR_true (inR_t1 (by omega) c1 c9)
      refine g_iload_n dX5_dutyAt_12 rfl ?_
      refine g_iconst (nI 4) dX5_dutyAt_13 ki_4 ?_
      refine g_icmp_ge_n 26 dX5_dutyAt_14 (by decide) (by omega) (by omega) (fun c14 => ?_) (fun c14 => ?_)
      · exact absurd hu (by omega)
      · refine g_aload_n dX5_dutyAt_17 rfl ?_
        refine g_getr (j := 5) dX5_dutyAt_18 gc5 rfl (by decide) rfl (by decide) fl_G_24 ?_
        refine g_iload_n dX5_dutyAt_21 rfl ?_
        refine g_iald_n dX5_dutyAt_22 (by first | rfl | assumption) (by first | decide | assumption) (by omega) (by omega) ?_
        try simp (disch := omega) only [e]
        refine g_goto 27 dX5_dutyAt_23 (by decide) ?_
        refine g_ireturn dX5_dutyAt_27 rfl (by first | rfl | exact nar_bI _) ?_
        exact h _
theorem SF_ring (x : Int32) (M : Mm) (S : BS) (Q : Po) (hB : BK M S) (hH : HM S) (h : ∀ (M' : Mm) (y : Int32), FrC M M' → BK M' S → Q M' (some (.int y))) : Call 60 mF_ring [.ref 0, .int x] M Q := by
  refine Call_of (m := mF_ring) [some (.ref 0), some (.int x)] rfl (fun G => Nat.le_of_ble_eq_true rfl) (fun G => rfl) ?_
  refine g_aload_n dX9_ring_0 rfl ?_
  refine g_getr (j := 5) dX9_ring_1 gc9 rfl (by decide) rfl (by decide) fl_F_45 ?_
  refine g_call0 dX9_ring_4 clG_findBest ml_F_231 gc5 rfl rfl (by decide) (Nat.le_of_ble_eq_true rfl) ?_
  refine SG_findBest hB hH (fun M1 m b g hE1 hM1 => ?_)
  obtain ⟨o1, o2, o3, o4, o5, o6⟩ := hM1.out
  have hB1 : BK M1 S := hB.eqO hE1 (by decide)
  have hf : ∀ y : Int32, Q M1 (some (.int y)) := fun y => h M1 y (FrC.of hE1 (by decide)) hB1
  by_cases h0 : (bsR S).1 = 0
  · rw [show decide (0 < m) = false from decide_eq_false (by omega)]
    refine g_if_ne_ff 13 dX9_ring_7 (by decide) ?_
    refine g_bipush ((-5)) dX9_ring_10 kb_m5 ?_
    refine g_ireturn dX9_ring_12 rfl (by first | rfl | exact nar_bI _) ?_
    exact hf _
  · rw [show decide (0 < m) = true from decide_eq_true (by omega)]
    refine g_if_ne_tt 13 dX9_ring_7 (by decide) ?_
    refine g_iload_n dX9_ring_13 rfl ?_
    refine g_if_ne 25 dX9_ring_14 (by decide) (fun c14 => ?_) (fun c14 => ?_)
    · refine g_iload_n dX9_ring_25 rfl ?_
      refine g_iconst (nI 1) dX9_ring_26 ki_1 ?_
      refine g_icmp_ne 40 dX9_ring_27 (by decide) (fun c27 => ?_) (fun c27 => ?_)
      · refine g_aload_n dX9_ring_40 rfl ?_
        refine g_getr (j := 5) dX9_ring_41 gc9 rfl (by decide) rfl (by decide) fl_F_45 ?_
        refine g_iload_n dX9_ring_44 rfl ?_
        refine g_bipush (nI 10) dX9_ring_45 kb_10 ?_
        refine g_isub dX9_ring_47 ?_
        refine g_call1 dX9_ring_48 clG_dutyAt ml_F_240 gc5 rfl rfl (by decide) (Nat.le_of_ble_eq_true rfl) ?_
        refine SG_dutyAtX o2 o4 (fun y => ?_)
        refine g_ireturn dX9_ring_51 rfl (by first | rfl | exact nar_bI _) ?_
        exact hf _
      · refine g_aload_n dX9_ring_30 rfl ?_
        refine g_getr (j := 5) dX9_ring_31 gc9 rfl (by decide) rfl (by decide) fl_F_45 ?_
        refine g_call0 dX9_ring_34 clG_size ml_F_237 gc5 rfl rfl (by decide) (Nat.le_of_ble_eq_true rfl) ?_
        refine SG_size o2 ?_
        refine g_goto 51 dX9_ring_37 (by decide) ?_
        refine g_ireturn dX9_ring_51 rfl (by first | rfl | exact nar_bI _) ?_
        exact hf _
    · refine g_aload_n dX9_ring_17 rfl ?_
      refine g_getr (j := 5) dX9_ring_18 gc9 rfl (by decide) rfl (by decide) fl_F_45 ?_
      refine g_call0 dX9_ring_21 clG_gain ml_F_234 gc5 rfl rfl (by decide) (Nat.le_of_ble_eq_true rfl) ?_
      refine SG_gain o3 ?_
      refine g_ireturn dX9_ring_24 rfl (by first | rfl | exact nar_bI _) ?_
      exact hf _
