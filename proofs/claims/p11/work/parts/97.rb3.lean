/-! RINGS: handed on; in the reference -/
theorem SM_doesRing {d : Nat} {M : Mm} {S : BS} {Q : Po} {b : RW} {m : Nat} (hM : MK (M 58) S) (hr : ringOK S b m) (h16 : M 57 16 = nI m) (h68 : ∀ i, i < m → M 68 i = nI (b i)) (h : ∀ M', EqO [58] M M' → MK (M' 58) (hnR S b m) → Q M' none) : Call (d + 3) mM_doesRing [.ref 57] M Q := by
  have hm2 := hr.1
  have hm4 := hr.2.1
  have hrow := hr.2.2.1
  have hw := hM.wf.nd
  have e1 : ∀ i, hnD S b i 1 0 0 = S 1 0 0 := fun i => by rw [hnD_oth (by decide)]
  have x0 := h68 0 (by omega)
  have hr0 := hrow 0 (by omega)
  refine Call_of (m := mM_doesRing) [some (.ref 57), none, none] rfl (fun G => Nat.le_of_ble_eq_true rfl) (fun G => rfl) ?_
  refine g_aload_n dX10_doesRing_0 rfl ?_
  refine g_aload_n dX10_doesRing_1 rfl ?_
  refine g_getr (j := 15) dX10_doesRing_2 gc10 rfl (by decide) rfl (by decide) fl_M_41 ?_
  refine g_iconst (nI 0) dX10_doesRing_5 ki_0 ?_
  refine g_iald_n dX10_doesRing_6 (by first | rfl | assumption) (by first | decide | assumption) (by omega) (by omega) ?_
  try simp (disch := omega) only [x0]
  refine g_call1 dX10_doesRing_7 clM_holder ml_M_78 gc10 rfl rfl (by decide) (Nat.le_of_ble_eq_true rfl) ?_
  refine SM_holder hM hr0.1 ?_
  refine g_ist3_1 dX10_doesRing_10 (by decide) rfl ?_
  refine g_iconst (nI 0) dX10_doesRing_11 ki_0 ?_
  refine g_ist3_2 dX10_doesRing_12 (by decide) rfl ?_
  refine loop_up (P := fun i => ∀ M', EqO [58] M M' → MK (M' 58) (hnD S b i) → Go mM_doesRing (d + 3) Q 13 [some (.ref 57), some (.int (hv (S 12 (b 0) 0))), some (.int (nI i))] [] M') (m - 1) ?_ 0 (by omega) M EqO.rf hM
  intro i hi ih M' hE hM'
  have g16 : M' 57 16 = nI m := by rw [hE 57 (by decide)]; exact h16
  have g68 : ∀ i, i < m → M' 68 i = nI (b i) := fun i hi => by rw [hE 68 (by decide)]; exact h68 i hi
  have y1 := g68 (m - 1) (by omega)
  have hr1 := hrow (m - 1) (by omega)
  refine g_iload_n dX10_doesRing_13 rfl ?_
  refine g_aload_n dX10_doesRing_14 rfl ?_
  refine g_geti (j := 16) dX10_doesRing_15 gc10 rfl (by decide) rfl (by decide) fl_M_206 ?_
  try simp (disch := omega) only [g16, y1]
  refine g_iconst (nI 1) dX10_doesRing_18 ki_1 ?_
  first | refine g_isub_n dX10_doesRing_19 (by omega) ?_ | refine g_isub dX10_doesRing_19 ?_
  refine g_icmp_ge_n 56 dX10_doesRing_20 (by decide) (by omega) (by omega) (fun c20 => ?_) (fun c20 => ?_)
  · obtain rfl : i = m - 1 := by omega
    refine g_aload_n dX10_doesRing_56 rfl ?_
    refine g_getr (j := 0) dX10_doesRing_57 gc10 rfl (by decide) rfl (by decide) fl_M_9 ?_
    refine g_sipush (nI 299) dX10_doesRing_60 ks_299 ?_
    refine g_aload_n dX10_doesRing_63 rfl ?_
    refine g_getr (j := 15) dX10_doesRing_64 gc10 rfl (by decide) rfl (by decide) fl_M_41 ?_
    refine g_aload_n dX10_doesRing_67 rfl ?_
    refine g_geti (j := 16) dX10_doesRing_68 gc10 rfl (by decide) rfl (by decide) fl_M_206 ?_
    try simp (disch := omega) only [g16, y1]
    refine g_iconst (nI 1) dX10_doesRing_71 ki_1 ?_
    first | refine g_isub_n dX10_doesRing_72 (by omega) ?_ | refine g_isub dX10_doesRing_72 ?_
    refine g_iald_n dX10_doesRing_73 (by first | rfl | assumption) (by first | decide | assumption) (by omega) (by omega) ?_
    try simp (disch := omega) only [g16, y1]
    first | refine g_iadd_n dX10_doesRing_74 ?_ | refine g_iadd dX10_doesRing_74 ?_
    refine g_iload_n dX10_doesRing_75 rfl ?_
    refine g_iast_n dX10_doesRing_76 (by first | rfl | assumption) (by first | decide | assumption) (by omega) (by omega) ?_
    refine g_return dX10_doesRing_77 rfl ?_
    refine h _ (hE.tr (EqO.set (by decide))) ?_
    rw [mset_same]
    exact hM'.hol1 (by rw [e1]; exact hr1.1) (by omega)
  · have y2 := g68 i (by omega)
    have y3 := g68 (i + 1) (by omega)
    have hr2 := hrow i (by omega)
    have hr3 := hrow (i + 1) (by omega)
    refine g_aload_n dX10_doesRing_23 rfl ?_
    refine g_getr (j := 0) dX10_doesRing_24 gc10 rfl (by decide) rfl (by decide) fl_M_9 ?_
    refine g_sipush (nI 299) dX10_doesRing_27 ks_299 ?_
    refine g_aload_n dX10_doesRing_30 rfl ?_
    refine g_getr (j := 15) dX10_doesRing_31 gc10 rfl (by decide) rfl (by decide) fl_M_41 ?_
    refine g_iload_n dX10_doesRing_34 rfl ?_
    refine g_iald_n dX10_doesRing_35 (by first | rfl | assumption) (by first | decide | assumption) (by omega) (by omega) ?_
    try simp (disch := omega) only [y2, y3]
    first | refine g_iadd_n dX10_doesRing_36 ?_ | refine g_iadd dX10_doesRing_36 ?_
    refine g_aload_n dX10_doesRing_37 rfl ?_
    refine g_aload_n dX10_doesRing_38 rfl ?_
    refine g_getr (j := 15) dX10_doesRing_39 gc10 rfl (by decide) rfl (by decide) fl_M_41 ?_
    refine g_iload_n dX10_doesRing_42 rfl ?_
    refine g_iconst (nI 1) dX10_doesRing_43 ki_1 ?_
    first | refine g_iadd_n dX10_doesRing_44 ?_ | refine g_iadd dX10_doesRing_44 ?_
    refine g_iald_n dX10_doesRing_45 (by first | rfl | assumption) (by first | decide | assumption) (by omega) (by omega) ?_
    try simp (disch := omega) only [y2, y3]
    refine g_call1 dX10_doesRing_46 clM_holder ml_M_78 gc10 rfl rfl (by decide) (Nat.le_of_ble_eq_true rfl) ?_
    refine SM_holder hM' (by rw [e1]; exact hr3.1) ?_
    rw [hnD_at i (fun j hj => ring_ne hrow (by omega) (by omega))]
    refine g_iast_n dX10_doesRing_49 (by first | rfl | assumption) (by first | decide | assumption) (by omega) (by omega) ?_
    first | refine g_incn3_2 dX10_doesRing_50 ki_1 (by decide) rfl ?_ | refine g_incg3_2 (nI 1) dX10_doesRing_50 ki_1 (by decide) rfl ?_
    refine g_goto 13 dX10_doesRing_53 (by decide) ?_
    refine ih (by omega) _ (hE.tr (EqO.set (by decide))) ?_
    rw [mset_same, hnD]
    exact hM'.hol1 (by rw [e1]; exact hr2.1) (by omega)
theorem HM_hnR {S : BS} {b : RW} {m : Nat} (hH : HM S) (hr : ringOK S b m) : HM (hnR S b m) := by
  have hm2 := hr.1
  have hrow := hr.2.2.1
  have hoth : ∀ a, a ≠ 12 → hnR S b m a = S a := fun a ha => by
    funext x c
    rw [hnR, up_off (fun z => ha z.1), hnD_oth ha]
  have hD : ∀ i, i ≤ m - 1 → ∀ e, e < S 1 0 0 → hnD S b i 12 e 0 < 8 → mayB S (hnD S b i 12 e 0) e = true := by
    intro i
    induction i with
    | zero => exact fun _ e he h8 => hH e he h8
    | succ i ih =>
      intro hi e he h8
      rw [hnD] at h8 ⊢
      by_cases z : e = b i
      · subst z
        rw [up_at]
        have := (hrow (i + 1) (by omega)).2.2.2.1 (by omega)
        exact this.2
      · rw [up_off (fun y => z y.2.1)] at h8 ⊢
        exact ih (by omega) e he h8
  intro e he h8
  rw [hoth 1 (by decide)] at he
  rw [may_ho (S := S) hoth]
  rw [hnR] at h8 ⊢
  by_cases z : e = b (m - 1)
  · subst z
    rw [up_at]
    exact hr.2.2.2
  · rw [up_off (fun y => z y.2.1)] at h8 ⊢
    exact hD (m - 1) (Nat.le_refl _) e he h8
