/-! RINGS: handed on; in the class -/
def hnD (S : BS) (b : RW) : Nat → BS
  | 0 => S
  | i + 1 => up (hnD S b i) 12 (b i) 0 (S 12 (b (i + 1)) 0)
def hnR (S : BS) (b : RW) (m : Nat) : BS := up (hnD S b (m - 1)) 12 (b (m - 1)) 0 (S 12 (b 0) 0)
theorem hnD_oth {S : BS} {b : RW} {a : Nat} (h : a ≠ 12) : ∀ i, hnD S b i a = S a
  | 0 => rfl
  | i + 1 => by
    funext x c
    rw [hnD, up_off (fun z => h z.1), hnD_oth h i]
theorem hnD_at {S : BS} {b : RW} {x : Nat} : ∀ i, (∀ j, j < i → b j ≠ x) → hnD S b i 12 x 0 = S 12 x 0
  | 0, _ => rfl
  | i + 1, h => by
    rw [hnD, up_off (fun z => h i (by omega) z.2.1.symm), hnD_at i (fun j hj => h j (by omega))]
theorem ring_ne {S : BS} {b : RW} {m i j : Nat} (h : rowOK S b m) (hij : i < j) (hj : j < m) : b i ≠ b j := fun z => (h j hj).2.2.2.2 i hij (by rw [z])
theorem SG_handOn {d : Nat} {M : Mm} {S : BS} {Q : Po} {b : RW} {m : Nat} (hB : BK M S) (hr : ringOK S b m) (h8 : M 35 8 = nI m) (h40 : ∀ i, i < m → M 40 i = nI (b i)) (h : ∀ M', EqO [2] M M' → BK M' (hnR S b m) → Q M' none) : Call (d + 3) mG_handOn [.ref 35] M Q := by
  have hm2 := hr.1
  have hm4 := hr.2.1
  have hrow := hr.2.2.1
  have hw := hB.wf.nd
  have e1 : ∀ i, hnD S b i 1 0 0 = S 1 0 0 := fun i => by rw [hnD_oth (by decide)]
  have x0 := h40 0 (by omega)
  have hr0 := hrow 0 (by omega)
  refine Call_of (m := mG_handOn) [some (.ref 35), none, none] rfl (fun G => Nat.le_of_ble_eq_true rfl) (fun G => rfl) ?_
  refine g_aload_n dX5_handOn_0 rfl ?_
  refine g_geti (j := 8) dX5_handOn_1 gc5 rfl (by decide) rfl (by decide) fl_G_38 ?_
  try simp (disch := omega) only [h8, x0]
  refine g_iconst (nI 2) dX5_handOn_4 ki_2 ?_
  refine g_icmp_lt_n 16 dX5_handOn_5 (by decide) (by omega) (by omega) (fun c5 => ?_) (fun c5 => ?_)
  · exact absurd hm2 (by omega)
  · refine g_aload_n dX5_handOn_8 rfl ?_
    refine g_geti (j := 8) dX5_handOn_9 gc5 rfl (by decide) rfl (by decide) fl_G_38 ?_
    try simp (disch := omega) only [h8, x0]
    refine g_iconst (nI 4) dX5_handOn_12 ki_4 ?_
    refine g_icmp_le_n 17 dX5_handOn_13 (by decide) (by omega) (by omega) (fun c13 => ?_) (fun c13 => ?_)
    · refine g_aload_n dX5_handOn_17 rfl ?_
      refine g_getr (j := 0) dX5_handOn_18 gc5 rfl (by decide) rfl (by decide) fl_G_27 ?_
      refine g_aload_n dX5_handOn_21 rfl ?_
      refine g_getr (j := 5) dX5_handOn_22 gc5 rfl (by decide) rfl (by decide) fl_G_24 ?_
      refine g_iconst (nI 0) dX5_handOn_25 ki_0 ?_
      refine g_iald_n dX5_handOn_26 (by first | rfl | assumption) (by first | decide | assumption) (by omega) (by omega) ?_
      try simp (disch := omega) only [h8, x0]
      refine g_call1 dX5_handOn_27 clB_holderOf ml_G_64 gc0 rfl rfl (by decide) (Nat.le_of_ble_eq_true rfl) ?_
      refine SB_holderOf hB hr0.1 ?_
      rw [hv_p (p := S 12 (b 0) 0) hr0.2.1]
      refine g_ist3_1 dX5_handOn_30 (by decide) rfl ?_
      refine g_iconst (nI 1) dX5_handOn_31 ki_1 ?_
      refine g_ist3_2 dX5_handOn_32 (by decide) rfl ?_
      refine loop_up (P := fun i => 1 ≤ i → ∀ M', EqO [2] M M' → BK M' (hnD S b (i - 1)) → Go mG_handOn (d + 3) Q 33 [some (.ref 35), some (.int (nI (S 12 (b 0) 0))), some (.int (nI i))] [] M') m ?_ 1 (by omega) (Nat.le_refl 1) M EqO.rf hB
      intro i hi ih h1 M' hE hB'
      have g8 : M' 35 8 = nI m := by rw [hE 35 (by decide)]; exact h8
      have g40 : ∀ i, i < m → M' 40 i = nI (b i) := fun i hi => by rw [hE 40 (by decide)]; exact h40 i hi
      have y1 := g40 (i - 1) (by omega)
      have hr1 := hrow (i - 1) (by omega)
      refine g_iload_n dX5_handOn_33 rfl ?_
      refine g_aload_n dX5_handOn_34 rfl ?_
      refine g_geti (j := 8) dX5_handOn_35 gc5 rfl (by decide) rfl (by decide) fl_G_38 ?_
      try simp (disch := omega) only [g8, y1]
      refine g_icmp_ge_n 75 dX5_handOn_38 (by decide) (by omega) (by omega) (fun c38 => ?_) (fun c38 => ?_)
      · obtain rfl : i = m := by omega
        refine g_aload_n dX5_handOn_75 rfl ?_
        refine g_getr (j := 0) dX5_handOn_76 gc5 rfl (by decide) rfl (by decide) fl_G_27 ?_
        refine g_aload_n dX5_handOn_79 rfl ?_
        refine g_getr (j := 5) dX5_handOn_80 gc5 rfl (by decide) rfl (by decide) fl_G_24 ?_
        refine g_aload_n dX5_handOn_83 rfl ?_
        refine g_geti (j := 8) dX5_handOn_84 gc5 rfl (by decide) rfl (by decide) fl_G_38 ?_
        try simp (disch := omega) only [g8, y1]
        refine g_iconst (nI 1) dX5_handOn_87 ki_1 ?_
        first | refine g_isub_n dX5_handOn_88 (by omega) ?_ | refine g_isub dX5_handOn_88 ?_
        refine g_iald_n dX5_handOn_89 (by first | rfl | assumption) (by first | decide | assumption) (by omega) (by omega) ?_
        try simp (disch := omega) only [g8, y1]
        refine g_iload_n dX5_handOn_90 rfl ?_
        refine g_call2 dX5_handOn_91 clB_putHolder ml_G_96 gc0 rfl rfl (by decide) (Nat.le_of_ble_eq_true rfl) ?_
        rw [← hv_p (p := S 12 (b 0) 0) hr0.2.1]
        refine SB_putHolder hB' (by rw [e1]; exact hr1.1) ?_
        refine g_return dX5_handOn_94 rfl ?_
        exact h _ (hE.tr (EqO.set (by decide))) (hB'.hol1 (by rw [e1]; exact hr1.1) (by omega))
      · have y2 := g40 i (by omega)
        have hr2 := hrow i (by omega)
        refine g_aload_n dX5_handOn_41 rfl ?_
        refine g_getr (j := 0) dX5_handOn_42 gc5 rfl (by decide) rfl (by decide) fl_G_27 ?_
        refine g_aload_n dX5_handOn_45 rfl ?_
        refine g_getr (j := 5) dX5_handOn_46 gc5 rfl (by decide) rfl (by decide) fl_G_24 ?_
        refine g_iload_n dX5_handOn_49 rfl ?_
        refine g_iconst (nI 1) dX5_handOn_50 ki_1 ?_
        first | refine g_isub_n dX5_handOn_51 (by omega) ?_ | refine g_isub dX5_handOn_51 ?_
        refine g_iald_n dX5_handOn_52 (by first | rfl | assumption) (by first | decide | assumption) (by omega) (by omega) ?_
        try simp (disch := omega) only [g8, y1, y2]
        refine g_aload_n dX5_handOn_53 rfl ?_
        refine g_getr (j := 0) dX5_handOn_54 gc5 rfl (by decide) rfl (by decide) fl_G_27 ?_
        refine g_aload_n dX5_handOn_57 rfl ?_
        refine g_getr (j := 5) dX5_handOn_58 gc5 rfl (by decide) rfl (by decide) fl_G_24 ?_
        refine g_iload_n dX5_handOn_61 rfl ?_
        refine g_iald_n dX5_handOn_62 (by first | rfl | assumption) (by first | decide | assumption) (by omega) (by omega) ?_
        try simp (disch := omega) only [g8, y1, y2]
        refine g_call1 dX5_handOn_63 clB_holderOf ml_G_64 gc0 rfl rfl (by decide) (Nat.le_of_ble_eq_true rfl) ?_
        refine SB_holderOf hB' (by rw [e1]; exact hr2.1) ?_
        rw [hnD_at (i - 1) (fun j hj => ring_ne hrow (by omega) (by omega))]
        refine g_call2 dX5_handOn_66 clB_putHolder ml_G_96 gc0 rfl rfl (by decide) (Nat.le_of_ble_eq_true rfl) ?_
        refine SB_putHolder hB' (by rw [e1]; exact hr1.1) ?_
        first | refine g_incn3_2 dX5_handOn_69 ki_1 (by decide) rfl ?_ | refine g_incg3_2 (nI 1) dX5_handOn_69 ki_1 (by decide) rfl ?_
        refine g_goto 33 dX5_handOn_72 (by decide) ?_
        refine ih (by omega) (by omega) _ (hE.tr (EqO.set (by decide))) ?_
        have z := hB'.hol1 (e := b (i - 1)) (q := S 12 (b i) 0) (by rw [e1]; exact hr1.1) (by omega)
        rw [show i + 1 - 1 = i - 1 + 1 by omega, hnD, show i - 1 + 1 = i by omega]
        exact z
    · exact absurd hm4 (by omega)
