/-! RINGS in the class: a ring tried -/
theorem t_sub {x y : Int32} {a b : Int} (hx : x.toInt = a) (hy : y.toInt = b) (h : -1000000 ≤ a - b ∧ a - b ≤ 1000000) : (x - y).toInt = a - b := by
  rw [Int32.toInt_sub, hx, hy]
  exact Int.bmod_eq_of_le (by omega) (by omega)
theorem t_add {x y : Int32} {a b : Int} (hx : x.toInt = a) (hy : y.toInt = b) (h : -1000000 ≤ a + b ∧ a + b ≤ 1000000) : (x + y).toInt = a + b := by
  rw [Int32.toInt_add, hx, hy]
  exact Int.bmod_eq_of_le (by omega) (by omega)
theorem t_mul {x y : Int32} {a b : Int} (hx : x.toInt = a) (hy : y.toInt = b) (h : -1000000 ≤ a * b ∧ a * b ≤ 1000000) : (x * y).toInt = a * b := by
  rw [Int32.toInt_mul, hx, hy]
  exact Int.bmod_eq_of_le (by omega) (by omega)
theorem t_nI {x : Int32} {n : Nat} (h : x.toInt = (n : Int)) (hn : n < 2 ^ 31) : x = nI n := Int32.toInt_inj.mp (by rw [h, nI_toInt hn])
def RG (S : BS) (M : Mm) (k hc : Nat) (hl : Nat → Nat) (mc : Nat) : Prop := HLp S k hc hl (S 1 0 0) ∧ HLm S M hc hl ∧ CSr S M hc hl hc 0 ∧ M 35 7 = nI mc ∧ mc ≤ 9 ∧ ∀ a, a < hc → dlv S (S 12 (hl a) 0) (hl a) ≤ mc
theorem RG.off {S : BS} {M M' : Mm} {k hc : Nat} {hl : Nat → Nat} {mc : Nat} (h : RG S M k hc hl mc) (h1 : ∀ j, j = 6 ∨ j = 7 → M' 35 j = M 35 j) (h2 : ∀ i, i = 36 ∨ i = 37 ∨ i = 38 → M' i = M i) : RG S M' k hc hl mc := by
  obtain ⟨a, ⟨b, b2⟩, c, d, e⟩ := h
  refine ⟨a, ⟨by rw [h1 6 (by omega)]; exact b, fun i hi => ?_⟩, fun x y hy z => ?_, by rw [h1 7 (by omega)]; exact d, e⟩
  · rw [h2 36 (by omega), h2 37 (by omega)]; exact b2 i hi
  · rw [h2 38 (by omega)]; exact c x y hy z
theorem SG_costOf {d : Nat} {M : Mm} {S : BS} {Q : Po} {k hc mc x y : Nat} {hl : Nat → Nat} (hR : RG S M k hc hl mc) (hw : S 1 0 0 ≤ 24) (hx : x < hc) (hy : y < hc) (h : Q M (some (.int (cstR S (hl x) (hl y))))) : Call (d + 1) mG_costOf [.ref 35, .int (nI x), .int (nI y)] M Q := by
  have hc24 := hR.1.1
  have hcs := hR.2.2.1 x y hy (Or.inl hx)
  refine Call_of (m := mG_costOf) [some (.ref 35), some (.int (nI x)), some (.int (nI y)), none] rfl (fun G => Nat.le_of_ble_eq_true rfl) (fun G => rfl) ?_
  refine g_iload_n dX5_costOf_0 rfl ?_
  refine g_if_lt_n 24 dX5_costOf_1 (by decide) (by omega) ?_
  refine g_iload_n dX5_costOf_4 rfl ?_
  refine g_bipush (nI 24) dX5_costOf_5 kb_24 ?_
  refine g_icmp_ge_n 24 dX5_costOf_7 (by decide) (by omega) (by omega) (fun c7 => ?_) (fun c7 => ?_)
  · exact absurd hw (by omega)
  · refine g_iload_n dX5_costOf_10 rfl ?_
    refine g_if_lt_n 24 dX5_costOf_11 (by decide) (by omega) ?_
    refine g_iload_n dX5_costOf_14 rfl ?_
    refine g_bipush (nI 24) dX5_costOf_15 kb_24 ?_
    refine g_icmp_ge_n 24 dX5_costOf_17 (by decide) (by omega) (by omega) (fun c17 => ?_) (fun c17 => ?_)
    · exact absurd hw (by omega)
    · skip
      refine g_iconst (nI 1) dX5_costOf_20 ki_1 ?_
      refine g_goto 25 dX5_costOf_21 (by decide) ?_
      refine g_ist4_3 dX5_costOf_25 (by decide) rfl ?_
      refine g_iload_n dX5_costOf_26 rfl ?_
      refine g_if_eq_tt 44 dX5_costOf_27 (by decide) ?_
      refine g_aload_n dX5_costOf_30 rfl ?_
      refine g_getr (j := 3) dX5_costOf_31 gc5 rfl (by decide) rfl (by decide) fl_G_18 ?_
      refine g_iload_n dX5_costOf_34 rfl ?_
      refine g_bipush (nI 24) dX5_costOf_35 kb_24 ?_
      first | refine g_imul_n dX5_costOf_37 ?_ | refine g_imul dX5_costOf_37 ?_
      refine g_iload_n dX5_costOf_38 rfl ?_
      first | refine g_iadd_n dX5_costOf_39 ?_ | refine g_iadd dX5_costOf_39 ?_
      refine g_iald_n dX5_costOf_40 (by first | rfl | assumption) (by first | decide | assumption) (by omega) (by omega) ?_
      try simp (disch := omega) only [hcs]
      refine g_goto 45 dX5_costOf_41 (by decide) ?_
      refine g_ireturn dX5_costOf_45 rfl (by first | rfl | exact nar_bI _) ?_
      exact h
theorem SG_dutyOfRow {d : Nat} {M : Mm} {S : BS} {Q : Po} {k hc mc p z : Nat} {hl : Nat → Nat} (hR : RG S M k hc hl mc) (hw : S 1 0 0 ≤ 24) (hp : p < 4) (hz : M 39 p = nI z) (hzc : z < hc) (h : Q M (some (.int (nI (hl z))))) : Call (d + 1) mG_dutyOfRow [.ref 35, .int (nI p)] M Q := by
  have hc24 := hR.1.1
  have h36 := (hR.2.1.2 z hzc).1
  refine Call_of (m := mG_dutyOfRow) [some (.ref 35), some (.int (nI p))] rfl (fun G => Nat.le_of_ble_eq_true rfl) (fun G => rfl) ?_
  refine g_iload_n dX5_dutyOfRow_0 rfl ?_
  refine g_if_lt_n 9 dX5_dutyOfRow_1 (by decide) (by omega) ?_
  refine g_iload_n dX5_dutyOfRow_4 rfl ?_
  refine g_iconst (nI 4) dX5_dutyOfRow_5 ki_4 ?_
  refine g_icmp_lt_n 11 dX5_dutyOfRow_6 (by decide) (by omega) (by omega) (fun c6 => ?_) (fun c6 => ?_)
  · refine g_aload_n dX5_dutyOfRow_11 rfl ?_
    refine g_getr (j := 4) dX5_dutyOfRow_12 gc5 rfl (by decide) rfl (by decide) fl_G_21 ?_
    refine g_iload_n dX5_dutyOfRow_15 rfl ?_
    refine g_iald_n dX5_dutyOfRow_16 (by first | rfl | assumption) (by first | decide | assumption) (by omega) (by omega) ?_
    try simp (disch := omega) only [hz, h36]
    refine g_if_lt_n 45 dX5_dutyOfRow_17 (by decide) (by omega) ?_
    refine g_aload_n dX5_dutyOfRow_20 rfl ?_
    refine g_getr (j := 4) dX5_dutyOfRow_21 gc5 rfl (by decide) rfl (by decide) fl_G_21 ?_
    refine g_iload_n dX5_dutyOfRow_24 rfl ?_
    refine g_iald_n dX5_dutyOfRow_25 (by first | rfl | assumption) (by first | decide | assumption) (by omega) (by omega) ?_
    try simp (disch := omega) only [hz, h36]
    refine g_bipush (nI 24) dX5_dutyOfRow_26 kb_24 ?_
    refine g_icmp_ge_n 45 dX5_dutyOfRow_28 (by decide) (by omega) (by omega) (fun c28 => ?_) (fun c28 => ?_)
    · exact absurd hw (by omega)
    · refine g_aload_n dX5_dutyOfRow_31 rfl ?_
      refine g_getr (j := 1) dX5_dutyOfRow_32 gc5 rfl (by decide) rfl (by decide) fl_G_9 ?_
      refine g_aload_n dX5_dutyOfRow_35 rfl ?_
      refine g_getr (j := 4) dX5_dutyOfRow_36 gc5 rfl (by decide) rfl (by decide) fl_G_21 ?_
      refine g_iload_n dX5_dutyOfRow_39 rfl ?_
      refine g_iald_n dX5_dutyOfRow_40 (by first | rfl | assumption) (by first | decide | assumption) (by omega) (by omega) ?_
      try simp (disch := omega) only [hz, h36]
      refine g_iald_n dX5_dutyOfRow_41 (by first | rfl | assumption) (by first | decide | assumption) (by omega) (by omega) ?_
      try simp (disch := omega) only [hz, h36]
      refine g_goto 46 dX5_dutyOfRow_42 (by decide) ?_
      refine g_ireturn dX5_dutyOfRow_46 rfl (by first | rfl | exact nar_bI _) ?_
      exact h
  · exact absurd hp (by omega)
def BM (S : BS) (M : Mm) (P : Nat → RW → Prop) (m : Nat) (b : RW) (g : Nat) : Prop := M 35 8 = nI m ∧ M 35 9 = nI g ∧ m ≤ 4 ∧ g ≤ 100 ∧ (m = 0 → g = 0) ∧ (0 < m → (g : Int) = gnR S b m) ∧ (∀ i, i < m → M 40 i = nI (b i) ∧ b i < 24) ∧ BstP S P m b
theorem SG_isBetter {d : Nat} {M : Mm} {S : BS} {Q : Po} {P : Nat → RW → Prop} {k hc mc n m g G z : Nat} {b : RW} {hl : Nat → Nat} (hR : RG S M k hc hl mc) (hw : S 1 0 0 ≤ 24) (hM : BM S M P m b g) (hG : 0 < G ∧ G ≤ 100) (hn : 2 ≤ n ∧ n ≤ 4) (hz : M 39 0 = nI z) (hzc : z < hc) (h : Q M (some (.int (bI (decide (g < G ∨ (G = g ∧ (n < m ∨ (n = m ∧ hl z < b 0)))))))) ) : Call (d + 2) mG_isBetter [.ref 35, .int (nI G), .int (nI n)] M Q := by
  obtain ⟨h8, h9, hm4, hg, h0, hgn, h40, hb⟩ := hM
  have hc24 := hR.1.1
  have hl24 := (hR.1.2.1 z hzc).1
  refine Call_of (m := mG_isBetter) [some (.ref 35), some (.int (nI G)), some (.int (nI n))] rfl (fun G => Nat.le_of_ble_eq_true rfl) (fun G => rfl) ?_
  refine g_iload_n dX5_isBetter_0 rfl ?_
  refine g_aload_n dX5_isBetter_1 rfl ?_
  refine g_geti (j := 9) dX5_isBetter_2 gc5 rfl (by decide) rfl (by decide) fl_G_41 ?_
  try simp (disch := omega) only [h8, h9]
  refine g_icmp_eq_n 22 dX5_isBetter_5 (by decide) (by omega) (by omega) (fun c5 => ?_) (fun c5 => ?_)
  · refine g_iload_n dX5_isBetter_22 rfl ?_
    refine g_aload_n dX5_isBetter_23 rfl ?_
    refine g_geti (j := 8) dX5_isBetter_24 gc5 rfl (by decide) rfl (by decide) fl_G_38 ?_
    try simp (disch := omega) only [h8, h9]
    refine g_icmp_eq_n 46 dX5_isBetter_27 (by decide) (by omega) (by omega) (fun c27 => ?_) (fun c27 => ?_)
    · have x40 := (h40 0 (by omega)).1
      have y40 := (h40 0 (by omega)).2
      refine g_aload_n dX5_isBetter_46 rfl ?_
      refine g_iconst (nI 0) dX5_isBetter_47 ki_0 ?_
      refine g_call1 dX5_isBetter_48 clG_dutyOfRow ml_G_93 gc5 rfl rfl (by decide) (Nat.le_of_ble_eq_true rfl) ?_
      refine SG_dutyOfRow hR hw (by omega) hz hzc ?_
      refine g_aload_n dX5_isBetter_51 rfl ?_
      refine g_getr (j := 5) dX5_isBetter_52 gc5 rfl (by decide) rfl (by decide) fl_G_24 ?_
      refine g_iconst (nI 0) dX5_isBetter_55 ki_0 ?_
      refine g_iald_n dX5_isBetter_56 (by first | rfl | assumption) (by first | decide | assumption) (by omega) (by omega) ?_
      try simp (disch := omega) only [x40]
      refine g_icmp_ge_n 64 dX5_isBetter_57 (by decide) (by omega) (by omega) (fun c57 => ?_) (fun c57 => ?_)
      · refine g_iconst (nI 0) dX5_isBetter_64 ki_0 ?_
        refine g_ireturn dX5_isBetter_65 rfl (by first | rfl | exact nar_bI _) ?_
        exact qb_f h (decide_eq_false (by omega))
      · refine g_iconst (nI 1) dX5_isBetter_60 ki_1 ?_
        refine g_goto 65 dX5_isBetter_61 (by decide) ?_
        refine g_ireturn dX5_isBetter_65 rfl (by first | rfl | exact nar_bI _) ?_
        exact qb_t h (decide_eq_true (by omega))
    · skip
      refine g_iload_n dX5_isBetter_30 rfl ?_
      refine g_aload_n dX5_isBetter_31 rfl ?_
      refine g_geti (j := 8) dX5_isBetter_32 gc5 rfl (by decide) rfl (by decide) fl_G_38 ?_
      try simp (disch := omega) only [h8, h9]
      refine g_icmp_ge_n 42 dX5_isBetter_35 (by decide) (by omega) (by omega) (fun c35 => ?_) (fun c35 => ?_)
      · refine g_iconst (nI 0) dX5_isBetter_42 ki_0 ?_
        refine g_goto 65 dX5_isBetter_43 (by decide) ?_
        refine g_ireturn dX5_isBetter_65 rfl (by first | rfl | exact nar_bI _) ?_
        exact qb_f h (decide_eq_false (by omega))
      · refine g_iconst (nI 1) dX5_isBetter_38 ki_1 ?_
        refine g_goto 65 dX5_isBetter_39 (by decide) ?_
        refine g_ireturn dX5_isBetter_65 rfl (by first | rfl | exact nar_bI _) ?_
        exact qb_t h (decide_eq_true (by omega))
  · skip
    refine g_iload_n dX5_isBetter_8 rfl ?_
    refine g_aload_n dX5_isBetter_9 rfl ?_
    refine g_geti (j := 9) dX5_isBetter_10 gc5 rfl (by decide) rfl (by decide) fl_G_41 ?_
    try simp (disch := omega) only [h8, h9]
    refine g_icmp_le_n 20 dX5_isBetter_13 (by decide) (by omega) (by omega) (fun c13 => ?_) (fun c13 => ?_)
    · refine g_iconst (nI 0) dX5_isBetter_20 ki_0 ?_
      refine g_ireturn dX5_isBetter_21 rfl (by first | rfl | exact nar_bI _) ?_
      exact qb_f h (decide_eq_false (by omega))
    · refine g_iconst (nI 1) dX5_isBetter_16 ki_1 ?_
      refine g_goto 21 dX5_isBetter_17 (by decide) ?_
      refine g_ireturn dX5_isBetter_21 rfl (by first | rfl | exact nar_bI _) ?_
      exact qb_t h (decide_eq_true (by omega))
