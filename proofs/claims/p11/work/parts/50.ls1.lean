/-! LISTS: the class's rows -/
theorem inR_0 (x : Int32) : inR x 0 = false := decide_eq_false (by omega)
theorem nI_m1 {n : Nat} (h : n < 2 ^ 31) : nI n ≠ -1 := fun q => by
  have h2 := congrArg Int32.toInt q
  rw [nI_toInt h] at h2
  have h3 : (-1 : Int32).toInt = -1 := by decide
  omega
/-- a size: none, or one up to 30 -/
def szO (v : Int32) : Prop := v = -1 ∨ ∃ s, s ≤ 30 ∧ v = nI s
theorem szO.le {v : Int32} (h : szO v) : v2n v ≤ 30 := by
  rcases h with e | ⟨s, hs, e⟩
  · rw [e]; decide
  · rw [e, v2n_nI (by omega)]; exact hs
theorem SW_isRow {d : Nat} {M : Mm} {Q : Po} (x : Int32) (h : Q M (some (.int (bI (inR x 4))))) : Call (d + 1) mW_isRow [.ref 54, .int x] M Q := by
  refine Call_of (m := mW_isRow) [some (.ref 54), some (.int x)] rfl (fun G => Nat.le_of_ble_eq_true rfl) (fun G => rfl) ?_
  refine g_iload_n dX6_isRow_0 rfl ?_
  refine g_if_lt 13 dX6_isRow_1 (by decide) (fun c1 => ?_) (fun c1 => ?_)
  · refine g_iconst (nI 0) dX6_isRow_13 ki_0 ?_
    refine g_ireturn dX6_isRow_14 rfl (by first | rfl | exact nar_bI _) ?_
    exact qb_f h (inR_f1 c1)
  · refine g_iload_n dX6_isRow_4 rfl ?_
    refine g_iconst (nI 4) dX6_isRow_5 ki_4 ?_
    refine g_icmp_ge 13 dX6_isRow_6 (by decide) (fun c6 => ?_) (fun c6 => ?_)
    · refine g_iconst (nI 0) dX6_isRow_13 ki_0 ?_
      refine g_ireturn dX6_isRow_14 rfl (by first | rfl | exact nar_bI _) ?_
      exact qb_f h (inR_f2 (by omega) (Nat.le_refl _) c6)
    · refine g_iconst (nI 1) dX6_isRow_9 ki_1 ?_
      refine g_goto 14 dX6_isRow_10 (by decide) ?_
      refine g_ireturn dX6_isRow_14 rfl (by first | rfl | exact nar_bI _) ?_
      exact qb_t h (inR_t1 (by omega) c1 c6)
theorem SW_isRowT {d : Nat} {M : Mm} {Q : Po} {l : Nat} (hl : l < 4) (h : Q M (some (.int (bI true)))) : Call (d + 1) mW_isRow [.ref 54, .int (nI l)] M Q := by
  refine SW_isRow _ ?_
  rw [inR_nI (by omega), decide_eq_true hl]
  exact h
theorem SW_isHeld {d : Nat} {M : Mm} {Q : Po} {l : Nat} (hl : l < 4) (h : Q M (some (.int (bI (decide (M 56 l ≠ -1)))))) : Call (d + 2) mW_isHeld [.ref 54, .int (nI l)] M Q := by
  refine Call_of (m := mW_isHeld) [some (.ref 54), some (.int (nI l))] rfl (fun G => Nat.le_of_ble_eq_true rfl) (fun G => rfl) ?_
  refine g_aload_n dX6_isHeld_0 rfl ?_
  refine g_iload_n dX6_isHeld_1 rfl ?_
  refine g_call1 dX6_isHeld_2 clW_isRow ml_W_18 gc6 rfl rfl (by decide) (Nat.le_of_ble_eq_true rfl) ?_
  refine SW_isRowT hl ?_
  refine g_if_eq_tt 22 dX6_isHeld_5 (by decide) ?_
  refine g_aload_n dX6_isHeld_8 rfl ?_
  refine g_getr (j := 1) dX6_isHeld_9 gc6 rfl (by decide) rfl (by decide) fl_W_15 ?_
  refine g_iload_n dX6_isHeld_12 rfl ?_
  refine g_iald_n dX6_isHeld_13 (by first | rfl | assumption) (by first | decide | assumption) (by omega) (by omega) ?_
  refine g_iconst ((-1)) dX6_isHeld_14 ki_m1 ?_
  refine g_icmp_eq 22 dX6_isHeld_15 (by decide) (fun c15 => ?_) (fun c15 => ?_)
  · refine g_iconst (nI 0) dX6_isHeld_22 ki_0 ?_
    refine g_ireturn dX6_isHeld_23 rfl (by first | rfl | exact nar_bI _) ?_
    exact qb_f h (decide_eq_false (fun q => q c15))
  · refine g_iconst (nI 1) dX6_isHeld_18 ki_1 ?_
    refine g_goto 23 dX6_isHeld_19 (by decide) ?_
    refine g_ireturn dX6_isHeld_23 rfl (by first | rfl | exact nar_bI _) ?_
    exact qb_t h (decide_eq_true c15)
theorem SW_isPlace {d : Nat} {M : Mm} {Q : Po} {l : Nat} (hl : l < 4) (x : Int32) (hs : szO (M 56 l)) (h : Q M (some (.int (bI (inR x (v2n (M 56 l))))))) : Call (d + 3) mW_isPlace [.ref 54, .int (nI l), .int x] M Q := by
  refine Call_of (m := mW_isPlace) [some (.ref 54), some (.int (nI l)), some (.int x)] rfl (fun G => Nat.le_of_ble_eq_true rfl) (fun G => rfl) ?_
  refine g_aload_n dX6_isPlace_0 rfl ?_
  refine g_iload_n dX6_isPlace_1 rfl ?_
  refine g_call1 dX6_isPlace_2 clW_isHeld ml_W_22 gc6 rfl rfl (by decide) (Nat.le_of_ble_eq_true rfl) ?_
  refine SW_isHeld hl ?_
  rcases hs with e | ⟨s, hs, e⟩
  · rw [e, decide_eq_false (fun q => q rfl)]
    refine g_if_eq_ff 32 dX6_isPlace_5 (by decide) ?_
    refine g_iconst (nI 0) dX6_isPlace_32 ki_0 ?_
    refine g_ireturn dX6_isPlace_33 rfl (by first | rfl | exact nar_bI _) ?_
    exact qb_f h (by rw [e]; exact inR_0 x)
  · rw [e, decide_eq_true (nI_m1 (by omega))]
    refine g_if_eq_tt 32 dX6_isPlace_5 (by decide) ?_
    refine g_iload_n dX6_isPlace_8 rfl ?_
    refine g_if_lt 32 dX6_isPlace_9 (by decide) (fun c9 => ?_) (fun c9 => ?_)
    · refine g_iconst (nI 0) dX6_isPlace_32 ki_0 ?_
      refine g_ireturn dX6_isPlace_33 rfl (by first | rfl | exact nar_bI _) ?_
      exact qb_f h (by rw [e]; exact inR_f1 c9)
    · skip
      refine g_iload_n dX6_isPlace_12 rfl ?_
      refine g_aload_n dX6_isPlace_13 rfl ?_
      refine g_getr (j := 1) dX6_isPlace_14 gc6 rfl (by decide) rfl (by decide) fl_W_15 ?_
      refine g_iload_n dX6_isPlace_17 rfl ?_
      refine g_iald_n dX6_isPlace_18 (by first | rfl | assumption) (by first | decide | assumption) (by omega) (by omega) ?_
      try simp (disch := omega) only [e]
      refine g_icmp_ge 32 dX6_isPlace_19 (by decide) (fun c19 => ?_) (fun c19 => ?_)
      · refine g_iconst (nI 0) dX6_isPlace_32 ki_0 ?_
        refine g_ireturn dX6_isPlace_33 rfl (by first | rfl | exact nar_bI _) ?_
        exact qb_f h (by rw [e, v2n_nI (by omega)]; exact inR_f2 (by omega) (Nat.le_refl _) c19)
      · skip
        refine g_iload_n dX6_isPlace_22 rfl ?_
        refine g_bipush (nI 30) dX6_isPlace_23 kb_30 ?_
        refine g_icmp_ge 32 dX6_isPlace_25 (by decide) (fun c25 => ?_) (fun c25 => ?_)
        · refine g_iconst (nI 0) dX6_isPlace_32 ki_0 ?_
          refine g_ireturn dX6_isPlace_33 rfl (by first | rfl | exact nar_bI _) ?_
          exact qb_f h (by rw [e, v2n_nI (by omega)]; exact inR_f2 (by omega) hs c25)
        · refine g_iconst (nI 1) dX6_isPlace_28 ki_1 ?_
          refine g_goto 33 dX6_isPlace_29 (by decide) ?_
          refine g_ireturn dX6_isPlace_33 rfl (by first | rfl | exact nar_bI _) ?_
          exact qb_t h (by rw [e, v2n_nI (by omega)]; exact inR_t1 (by omega) c9 c19)
def putR (f : Nat → Int32) (z : Int32) (l : Nat) (i v : Int32) : Nat → Int32 := if inR i (v2n z) = true then upd f (l * 30 + v2n i) v else f
theorem SW_put {d : Nat} {M : Mm} {Q : Po} {l : Nat} (hl : l < 4) (x y : Int32) (hs : szO (M 56 l)) (h : ∀ M', EqO [55] M M' → M' 55 = putR (M 55) (M 56 l) l x y → Q M' (some (.int (bI (inR x (v2n (M 56 l))))))) : Call (d + 4) mW_put [.ref 54, .int (nI l), .int x, .int y] M Q := by
  have hb := hs.le
  refine Call_of (m := mW_put) [some (.ref 54), some (.int (nI l)), some (.int x), some (.int y)] rfl (fun G => Nat.le_of_ble_eq_true rfl) (fun G => rfl) ?_
  refine g_aload_n dX6_put_0 rfl ?_
  refine g_iload_n dX6_put_1 rfl ?_
  refine g_iload_n dX6_put_2 rfl ?_
  refine g_call2 dX6_put_3 clW_isPlace ml_W_25 gc6 rfl rfl (by decide) (Nat.le_of_ble_eq_true rfl) ?_
  refine SW_isPlace hl x hs ?_
  refine g_if_ne_b 11 dX6_put_6 (by decide) (fun c6 => ?_) (fun c6 => ?_)
  · obtain ⟨a, ha, rfl⟩ := inR_true c6
    refine g_aload_n dX6_put_11 rfl ?_
    refine g_getr (j := 0) dX6_put_12 gc6 rfl (by decide) rfl (by decide) fl_W_9 ?_
    refine g_iload_n dX6_put_15 rfl ?_
    refine g_bipush (nI 30) dX6_put_16 kb_30 ?_
    first | refine g_imul_n dX6_put_18 ?_ | refine g_imul dX6_put_18 ?_
    refine g_iload_n dX6_put_19 rfl ?_
    first | refine g_iadd_n dX6_put_20 ?_ | refine g_iadd dX6_put_20 ?_
    refine g_iload_n dX6_put_21 rfl ?_
    refine g_iast_n dX6_put_22 (by first | rfl | assumption) (by first | decide | assumption) (by omega) (by omega) ?_
    refine g_iconst (nI 1) dX6_put_23 ki_1 ?_
    refine g_ireturn dX6_put_24 rfl (by first | rfl | exact nar_bI _) ?_
    refine qb_t (h _ (EqO.set (by decide)) ?_) c6
    rw [mset_same]
    unfold putR
    rw [if_pos c6, v2n_nI (by omega)]
  · refine g_iconst (nI 0) dX6_put_9 ki_0 ?_
    refine g_ireturn dX6_put_10 rfl (by first | rfl | exact nar_bI _) ?_
    refine qb_f (h M EqO.rf ?_) c6
    unfold putR
    rw [if_neg (by rw [c6]; decide)]
def atR (f : Nat → Int32) (z : Int32) (l : Nat) (i : Int32) : Int64 := if inR i (v2n z) = true then (f (l * 30 + v2n i)).toInt64 else -9223372036854775808
theorem SW_at {d : Nat} {M : Mm} {Q : Po} {l : Nat} (hl : l < 4) (x : Int32) (hs : szO (M 56 l)) (h : Q M (some (.long (atR (M 55) (M 56 l) l x)))) : Call (d + 4) mW_at [.ref 54, .int (nI l), .int x] M Q := by
  have hb := hs.le
  unfold atR at h
  refine Call_of (m := mW_at) [some (.ref 54), some (.int (nI l)), some (.int x)] rfl (fun G => Nat.le_of_ble_eq_true rfl) (fun G => rfl) ?_
  refine g_aload_n dX6_at_0 rfl ?_
  refine g_iload_n dX6_at_1 rfl ?_
  refine g_iload_n dX6_at_2 rfl ?_
  refine g_call2 dX6_at_3 clW_isPlace ml_W_25 gc6 rfl rfl (by decide) (Nat.le_of_ble_eq_true rfl) ?_
  refine SW_isPlace hl x hs ?_
  refine g_if_eq_b 24 dX6_at_6 (by decide) (fun c6 => ?_) (fun c6 => ?_)
  · rw [if_neg (by rw [c6]; decide)] at h
    refine g_ldc2w (-9223372036854775808) dX6_at_24 kl_W_29 ?_
    refine g_lreturn dX6_at_27 rfl ?_
    exact h
  · obtain ⟨a, ha, rfl⟩ := inR_true c6
    rw [if_pos c6, v2n_nI (by omega)] at h
    refine g_aload_n dX6_at_9 rfl ?_
    refine g_getr (j := 0) dX6_at_10 gc6 rfl (by decide) rfl (by decide) fl_W_9 ?_
    refine g_iload_n dX6_at_13 rfl ?_
    refine g_bipush (nI 30) dX6_at_14 kb_30 ?_
    first | refine g_imul_n dX6_at_16 ?_ | refine g_imul dX6_at_16 ?_
    refine g_iload_n dX6_at_17 rfl ?_
    first | refine g_iadd_n dX6_at_18 ?_ | refine g_iadd dX6_at_18 ?_
    refine g_iald_n dX6_at_19 (by first | rfl | assumption) (by first | decide | assumption) (by omega) (by omega) ?_
    refine g_i2l dX6_at_20 ?_
    refine g_goto 27 dX6_at_21 (by decide) ?_
    refine g_lreturn dX6_at_27 rfl ?_
    exact h
def clrR (f : Nat → Int32) (l n : Nat) : Nat → Int32 := fun j => if l * 30 ≤ j ∧ j < l * 30 + n then nI 0 else f j
theorem clrR_0 (f : Nat → Int32) (l : Nat) : clrR f l 0 = f := by
  funext j
  unfold clrR
  rw [if_neg (by omega)]
theorem clrR_step {f : Nat → Int32} {l n k : Nat} (hk : k = l * 30 + n) : upd (clrR f l n) k (nI 0) = clrR f l (n + 1) := by
  funext j
  by_cases e : j = k
  · subst e; rw [upd_at]; unfold clrR; rw [if_pos (by omega)]
  · rw [upd_off e]
    unfold clrR
    by_cases z : l * 30 ≤ j ∧ j < l * 30 + n
    · rw [if_pos z, if_pos (by omega)]
    · rw [if_neg z, if_neg (by omega)]
theorem SW_begin {d : Nat} {M : Mm} {Q : Po} {l s : Nat} (hl : l < 4) (hs : s ≤ 30) (h : ∀ M', EqO [55, 56] M M' → M' 56 = upd (M 56) l (nI s) → M' 55 = clrR (M 55) l 30 → Q M' none) : Call (d + 2) mW_begin [.ref 54, .int (nI l), .int (nI s)] M Q := by
  refine Call_of (m := mW_begin) [some (.ref 54), some (.int (nI l)), some (.int (nI s)), none] rfl (fun G => Nat.le_of_ble_eq_true rfl) (fun G => rfl) ?_
  refine g_aload_n dX6_begin_0 rfl ?_
  refine g_iload_n dX6_begin_1 rfl ?_
  refine g_call1 dX6_begin_2 clW_isRow ml_W_18 gc6 rfl rfl (by decide) (Nat.le_of_ble_eq_true rfl) ?_
  refine SW_isRowT hl ?_
  refine g_if_eq_tt 18 dX6_begin_5 (by decide) ?_
  refine g_iload_n dX6_begin_8 rfl ?_
  refine g_if_lt_n 18 dX6_begin_9 (by decide) (by omega) ?_
  refine g_iload_n dX6_begin_12 rfl ?_
  refine g_bipush (nI 30) dX6_begin_13 kb_30 ?_
  refine g_icmp_le_n 19 dX6_begin_15 (by decide) (by omega) (by omega) (fun c15 => ?_) (fun c15 => ?_)
  · refine g_aload_n dX6_begin_19 rfl ?_
    refine g_getr (j := 1) dX6_begin_20 gc6 rfl (by decide) rfl (by decide) fl_W_15 ?_
    refine g_iload_n dX6_begin_23 rfl ?_
    refine g_iload_n dX6_begin_24 rfl ?_
    refine g_iast_n dX6_begin_25 (by first | rfl | assumption) (by first | decide | assumption) (by omega) (by omega) ?_
    refine g_iconst (nI 0) dX6_begin_26 ki_0 ?_
    refine g_ist4_3 dX6_begin_27 (by decide) rfl ?_
    refine loop_up (P := fun i => ∀ M', EqO [55, 56] M M' → M' 56 = upd (M 56) l (nI s) → M' 55 = clrR (M 55) l i → Go mW_begin (d + 2) Q 28 [some (.ref 54), some (.int (nI l)), some (.int (nI s)), some (.int (nI i))] [] M') 30 ?_ 0 (Nat.zero_le _) _ (EqO.set (by decide)) (mset_same _ _ _ _) (by rw [mset_ne (by decide), clrR_0])
    intro i hi ih M' hE h56 h55
    refine g_iload_n dX6_begin_28 rfl ?_
    refine g_bipush (nI 30) dX6_begin_29 kb_30 ?_
    refine g_icmp_ge_n 52 dX6_begin_31 (by decide) (by omega) (by omega) (fun c31 => ?_) (fun c31 => ?_)
    · refine g_return dX6_begin_52 rfl ?_
      exact h M' hE h56 (by rw [h55, show i = 30 by omega])
    · refine g_aload_n dX6_begin_34 rfl ?_
      refine g_getr (j := 0) dX6_begin_35 gc6 rfl (by decide) rfl (by decide) fl_W_9 ?_
      refine g_iload_n dX6_begin_38 rfl ?_
      refine g_bipush (nI 30) dX6_begin_39 kb_30 ?_
      first | refine g_imul_n dX6_begin_41 ?_ | refine g_imul dX6_begin_41 ?_
      refine g_iload_n dX6_begin_42 rfl ?_
      first | refine g_iadd_n dX6_begin_43 ?_ | refine g_iadd dX6_begin_43 ?_
      refine g_iconst (nI 0) dX6_begin_44 ki_0 ?_
      refine g_iast_n dX6_begin_45 (by first | rfl | assumption) (by first | decide | assumption) (by omega) (by omega) ?_
      first | refine g_incn4_3 dX6_begin_46 ki_1 (by decide) rfl ?_ | refine g_incg4_3 (nI 1) dX6_begin_46 ki_1 (by decide) rfl ?_
      refine g_goto 28 dX6_begin_49 (by decide) ?_
      refine ih (by omega) _ (hE.tr (EqO.set (by decide))) (by rw [mset_ne (by decide)]; exact h56) ?_
      rw [mset_same, h55]
      exact clrR_step rfl
  · exact absurd hs c15
