/-! image, undo -/
theorem SB_copyRow {d A B n : Nat} {M : Mm} {Q : Po} (hA : sh A = .inl (false, n)) (hB : sh B = .inl (false, n)) (kA : A < NN) (kB : B < NN) (hn : n < 1000) (hne : A ≠ B) (h : ∀ M', EqO [B] M M' → (∀ j, j < n → M' B j = M A j) → Q M' none) : Call (d + 1) mB_copyRow [.ref A, .ref B] M Q := by
  refine Call_of (m := mB_copyRow) [some (.ref A), some (.ref B), none] rfl (fun G => Nat.le_of_ble_eq_true rfl) (fun G => rfl) ?_
  refine g_iconst (nI 0) dX0_copyRow_0 ki_0 ?_
  refine g_ist3_2 dX0_copyRow_1 (by decide) rfl ?_
  refine loop_up (P := fun i => ∀ M', EqO [B] M M' → (∀ j, j < i → M' B j = M A j) → Go mB_copyRow (d + 1) Q 2 [some (.ref A), some (.ref B), some (.int (nI i))] [] M') n ?_ 0 (Nat.zero_le _) M EqO.rf (fun j hj => absurd hj (by omega))
  intro i hi ih M' hE hc
  refine g_iload_n dX0_copyRow_2 rfl ?_
  refine g_aload_n dX0_copyRow_3 rfl ?_
  refine g_alen dX0_copyRow_4 (by first | rfl | assumption) (by first | decide | assumption) ?_
  refine g_icmp_ge_n 26 dX0_copyRow_5 (by decide) (by omega) (by omega) (fun c5 => ?_) (fun c5 => ?_)
  · refine g_return dX0_copyRow_26 rfl ?_
    exact h M' hE (fun j hj => hc j (by omega))
  · refine g_iload_n dX0_copyRow_8 rfl ?_
    refine g_aload_n dX0_copyRow_9 rfl ?_
    refine g_alen dX0_copyRow_10 (by first | rfl | assumption) (by first | decide | assumption) ?_
    refine g_icmp_ge_n 26 dX0_copyRow_11 (by decide) (by omega) (by omega) (fun c11 => ?_) (fun c11 => ?_)
    · exact absurd hi (by omega)
    · refine g_aload_n dX0_copyRow_14 rfl ?_
      refine g_iload_n dX0_copyRow_15 rfl ?_
      refine g_aload_n dX0_copyRow_16 rfl ?_
      refine g_iload_n dX0_copyRow_17 rfl ?_
      refine g_iald_n dX0_copyRow_18 (by first | rfl | assumption) (by first | decide | assumption) (by omega) (by omega) ?_
      refine g_iast_n dX0_copyRow_19 (by first | rfl | assumption) (by first | decide | assumption) (by omega) (by omega) ?_
      first | refine g_incn3_2 dX0_copyRow_20 ki_1 (by decide) rfl ?_ | refine g_incg3_2 (nI 1) dX0_copyRow_20 ki_1 (by decide) rfl ?_
      refine g_goto 2 dX0_copyRow_23 (by decide) ?_
      refine ih (by omega) _ (hE.tr (EqO.set (by simp))) (fun j hj => ?_)
      by_cases e : j = i
      · subst e; rw [mset_at, hE A (by simp [hne])]
      · rw [mset_off (by omega)]; exact hc j (by omega)
def cpL (k : Nat) : Nat := [3, 24, 8, 8, 32, 8, 64, 64, 64, 24, 24, 24, 192].getD k 0
def CPs (t f : Nat) (K : List Nat) (M M' : Mm) : Prop := (∀ a, ¬ (t ≤ a ∧ a ≤ t + 12) → M' a = M a) ∧ ∀ k ∈ K, ∀ j, j < cpL k → M' (t + k) j = M (f + k) j
theorem CPs.step {t f k n : Nat} {K : List Nat} {M M1 M2 : Mm} (h : CPs t f K M M1) (hf : ¬ (t ≤ f + k ∧ f + k ≤ t + 12)) (hk : k ≤ 12) (hn : cpL k = n) (hK : k ∉ K) (hE : EqO [t + k] M1 M2) (hc : ∀ j, j < n → M2 (t + k) j = M1 (f + k) j) : CPs t f (k :: K) M M2 := by
  refine ⟨fun a ha => ?_, fun k2 hk2 j hj => ?_⟩
  · rw [hE a (by simp; omega)]
    exact h.1 a ha
  · rcases List.mem_cons.mp hk2 with e | e
    · subst e
      rw [hc j (by omega), h.1 _ hf]
    · rw [hE (t + k2) (by simp; intro z; exact hK (z ▸ e))]
      exact h.2 k2 e j hj
theorem CPs.all {t f : Nat} {M M' : Mm} (h : CPs t f [12, 11, 10, 9, 8, 7, 6, 5, 4, 2, 1, 3, 0] M M') {k j : Nat} (hk : k ≤ 12) (hj : j < cpL k) : M' (t + k) j = M (f + k) j := h.2 k (by simp only [List.mem_cons, List.not_mem_nil, or_false]; omega) j hj
theorem SB_copyFrom_14 {d : Nat} {M : Mm} {Q : Po} (hh : ∀ j, j < 8 → ∃ b, M 4 j = bI b) (h : ∀ M', CPs 14 1 [12, 11, 10, 9, 8, 7, 6, 5, 4, 2, 1, 3, 0] M M' → Q M' none) : Call (d + 2) mB_copyFrom [.ref 14, .ref 1] M Q := by
  refine Call_of (m := mB_copyFrom) [some (.ref 14), some (.ref 1), none] rfl (fun G => Nat.le_of_ble_eq_true rfl) (fun G => rfl) ?_
  refine g_aload_n dX0_copyFrom_0 rfl ?_
  refine g_aload_n dX0_copyFrom_1 rfl ?_
  refine g_geti (j := 0) dX0_copyFrom_2 gc0 rfl (by decide) rfl (by decide) fl_B_49 ?_
  try simp (disch := omega) only [mset_off]
  refine g_puti (j := 0) dX0_copyFrom_5 gc0 rfl (by decide) rfl (by decide) fl_B_49 rfl (tyX0_ok 0 (by decide)) (by first | rfl | exact nar_bI _) rfl ?_
  refine g_aload_n dX0_copyFrom_8 rfl ?_
  refine g_aload_n dX0_copyFrom_9 rfl ?_
  refine g_geti (j := 1) dX0_copyFrom_10 gc0 rfl (by decide) rfl (by decide) fl_B_53 ?_
  try simp (disch := omega) only [mset_off]
  refine g_puti (j := 1) dX0_copyFrom_13 gc0 rfl (by decide) rfl (by decide) fl_B_53 rfl (tyX0_ok 1 (by decide)) (by first | rfl | exact nar_bI _) rfl ?_
  refine g_aload_n dX0_copyFrom_16 rfl ?_
  refine g_aload_n dX0_copyFrom_17 rfl ?_
  refine g_geti (j := 2) dX0_copyFrom_18 gc0 rfl (by decide) rfl (by decide) fl_B_139 ?_
  try simp (disch := omega) only [mset_off]
  refine g_puti (j := 2) dX0_copyFrom_21 gc0 rfl (by decide) rfl (by decide) fl_B_139 rfl (tyX0_ok 2 (by decide)) (by first | rfl | exact nar_bI _) rfl ?_
  refine g_iconst (nI 0) dX0_copyFrom_24 ki_0 ?_
  refine g_ist3_2 dX0_copyFrom_25 (by decide) rfl ?_
  generalize hM0 : mset (mset (mset M 14 0 (M 1 0)) 14 1 (M 1 1)) 14 2 (M 1 2) = M0
  have g0 : CPs 14 1 [0] M M0 := by
    rw [← hM0]
    refine ⟨fun a ha => ?_, fun k hk j hj => ?_⟩
    · rw [mset_ne (by omega), mset_ne (by omega), mset_ne (by omega)]
    · obtain rfl : k = 0 := by simpa using hk
      have hj3 : j < 3 := hj
      obtain rfl | rfl | rfl : j = 0 ∨ j = 1 ∨ j = 2 := by omega
      · rw [mset_off (by omega), mset_off (by omega)]; exact mset_at _ _ _ _
      · rw [mset_off (by omega)]; exact mset_at _ _ _ _
      · exact mset_at _ _ _ _
  clear hM0
  refine loop_up (P := fun i => ∀ M', EqO [17] M0 M' → (∀ j, j < i → M' 17 j = M0 4 j) → Go mB_copyFrom (d + 2) Q 26 [some (.ref 14), some (.ref 1), some (.int (nI i))] [] M') 8 ?_ 0 (Nat.zero_le _) M0 EqO.rf (fun j hj => absurd hj (by omega))
  intro i hi ih M' hE hc
  refine g_iload_n dX0_copyFrom_26 rfl ?_
  refine g_bipush (nI 8) dX0_copyFrom_27 kb_8 ?_
  refine g_icmp_ge_n 50 dX0_copyFrom_29 (by decide) (by omega) (by omega) (fun c29 => ?_) (fun c29 => ?_)
  · have g3 := g0.step (k := 3) (n := 8) (by omega) (by omega) rfl (by decide) hE (fun j hj => hc j (by omega))
    clear ih hc g0
    refine g_aload_n dX0_copyFrom_50 rfl ?_
    refine g_getr (j := 3) dX0_copyFrom_51 gc0 rfl (by decide) rfl (by decide) fl_B_9 ?_
    refine g_aload_n dX0_copyFrom_54 rfl ?_
    refine g_getr (j := 3) dX0_copyFrom_55 gc0 rfl (by decide) rfl (by decide) fl_B_9 ?_
    refine g_calls2 dX0_copyFrom_58 clB_copyRow ml_B_142 (Nat.le_of_ble_eq_true rfl) ?_
    refine SB_copyRow (A := 2) (B := 15) (n := 24) rfl rfl (by decide) (by decide) (by omega) (by omega) (fun M1 hE1 hc1 => ?_)
    have p1 := g3.step (k := 1) (n := 24) (by omega) (by omega) rfl (by decide) hE1 hc1
    clear g3 hE1 hc1
    refine g_aload_n dX0_copyFrom_61 rfl ?_
    refine g_getr (j := 4) dX0_copyFrom_62 gc0 rfl (by decide) rfl (by decide) fl_B_15 ?_
    refine g_aload_n dX0_copyFrom_65 rfl ?_
    refine g_getr (j := 4) dX0_copyFrom_66 gc0 rfl (by decide) rfl (by decide) fl_B_15 ?_
    refine g_calls2 dX0_copyFrom_69 clB_copyRow ml_B_142 (Nat.le_of_ble_eq_true rfl) ?_
    refine SB_copyRow (A := 3) (B := 16) (n := 8) rfl rfl (by decide) (by decide) (by omega) (by omega) (fun M2 hE2 hc2 => ?_)
    have p2 := p1.step (k := 2) (n := 8) (by omega) (by omega) rfl (by decide) hE2 hc2
    clear p1 hE2 hc2
    refine g_aload_n dX0_copyFrom_72 rfl ?_
    refine g_getr (j := 6) dX0_copyFrom_73 gc0 rfl (by decide) rfl (by decide) fl_B_22 ?_
    refine g_aload_n dX0_copyFrom_76 rfl ?_
    refine g_getr (j := 6) dX0_copyFrom_77 gc0 rfl (by decide) rfl (by decide) fl_B_22 ?_
    refine g_calls2 dX0_copyFrom_80 clB_copyRow ml_B_142 (Nat.le_of_ble_eq_true rfl) ?_
    refine SB_copyRow (A := 5) (B := 18) (n := 32) rfl rfl (by decide) (by decide) (by omega) (by omega) (fun M4 hE4 hc4 => ?_)
    have p4 := p2.step (k := 4) (n := 32) (by omega) (by omega) rfl (by decide) hE4 hc4
    clear p2 hE4 hc4
    refine g_aload_n dX0_copyFrom_83 rfl ?_
    refine g_getr (j := 7) dX0_copyFrom_84 gc0 rfl (by decide) rfl (by decide) fl_B_25 ?_
    refine g_aload_n dX0_copyFrom_87 rfl ?_
    refine g_getr (j := 7) dX0_copyFrom_88 gc0 rfl (by decide) rfl (by decide) fl_B_25 ?_
    refine g_calls2 dX0_copyFrom_91 clB_copyRow ml_B_142 (Nat.le_of_ble_eq_true rfl) ?_
    refine SB_copyRow (A := 6) (B := 19) (n := 8) rfl rfl (by decide) (by decide) (by omega) (by omega) (fun M5 hE5 hc5 => ?_)
    have p5 := p4.step (k := 5) (n := 8) (by omega) (by omega) rfl (by decide) hE5 hc5
    clear p4 hE5 hc5
    refine g_aload_n dX0_copyFrom_94 rfl ?_
    refine g_getr (j := 8) dX0_copyFrom_95 gc0 rfl (by decide) rfl (by decide) fl_B_28 ?_
    refine g_aload_n dX0_copyFrom_98 rfl ?_
    refine g_getr (j := 8) dX0_copyFrom_99 gc0 rfl (by decide) rfl (by decide) fl_B_28 ?_
    refine g_calls2 dX0_copyFrom_102 clB_copyRow ml_B_142 (Nat.le_of_ble_eq_true rfl) ?_
    refine SB_copyRow (A := 7) (B := 20) (n := 64) rfl rfl (by decide) (by decide) (by omega) (by omega) (fun M6 hE6 hc6 => ?_)
    have p6 := p5.step (k := 6) (n := 64) (by omega) (by omega) rfl (by decide) hE6 hc6
    clear p5 hE6 hc6
    refine g_aload_n dX0_copyFrom_105 rfl ?_
    refine g_getr (j := 9) dX0_copyFrom_106 gc0 rfl (by decide) rfl (by decide) fl_B_31 ?_
    refine g_aload_n dX0_copyFrom_109 rfl ?_
    refine g_getr (j := 9) dX0_copyFrom_110 gc0 rfl (by decide) rfl (by decide) fl_B_31 ?_
    refine g_calls2 dX0_copyFrom_113 clB_copyRow ml_B_142 (Nat.le_of_ble_eq_true rfl) ?_
    refine SB_copyRow (A := 8) (B := 21) (n := 64) rfl rfl (by decide) (by decide) (by omega) (by omega) (fun M7 hE7 hc7 => ?_)
    have p7 := p6.step (k := 7) (n := 64) (by omega) (by omega) rfl (by decide) hE7 hc7
    clear p6 hE7 hc7
    refine g_aload_n dX0_copyFrom_116 rfl ?_
    refine g_getr (j := 10) dX0_copyFrom_117 gc0 rfl (by decide) rfl (by decide) fl_B_34 ?_
    refine g_aload_n dX0_copyFrom_120 rfl ?_
    refine g_getr (j := 10) dX0_copyFrom_121 gc0 rfl (by decide) rfl (by decide) fl_B_34 ?_
    refine g_calls2 dX0_copyFrom_124 clB_copyRow ml_B_142 (Nat.le_of_ble_eq_true rfl) ?_
    refine SB_copyRow (A := 9) (B := 22) (n := 64) rfl rfl (by decide) (by decide) (by omega) (by omega) (fun M8 hE8 hc8 => ?_)
    have p8 := p7.step (k := 8) (n := 64) (by omega) (by omega) rfl (by decide) hE8 hc8
    clear p7 hE8 hc8
    refine g_aload_n dX0_copyFrom_127 rfl ?_
    refine g_getr (j := 11) dX0_copyFrom_128 gc0 rfl (by decide) rfl (by decide) fl_B_37 ?_
    refine g_aload_n dX0_copyFrom_131 rfl ?_
    refine g_getr (j := 11) dX0_copyFrom_132 gc0 rfl (by decide) rfl (by decide) fl_B_37 ?_
    refine g_calls2 dX0_copyFrom_135 clB_copyRow ml_B_142 (Nat.le_of_ble_eq_true rfl) ?_
    refine SB_copyRow (A := 10) (B := 23) (n := 24) rfl rfl (by decide) (by decide) (by omega) (by omega) (fun M9 hE9 hc9 => ?_)
    have p9 := p8.step (k := 9) (n := 24) (by omega) (by omega) rfl (by decide) hE9 hc9
    clear p8 hE9 hc9
    refine g_aload_n dX0_copyFrom_138 rfl ?_
    refine g_getr (j := 12) dX0_copyFrom_139 gc0 rfl (by decide) rfl (by decide) fl_B_40 ?_
    refine g_aload_n dX0_copyFrom_142 rfl ?_
    refine g_getr (j := 12) dX0_copyFrom_143 gc0 rfl (by decide) rfl (by decide) fl_B_40 ?_
    refine g_calls2 dX0_copyFrom_146 clB_copyRow ml_B_142 (Nat.le_of_ble_eq_true rfl) ?_
    refine SB_copyRow (A := 11) (B := 24) (n := 24) rfl rfl (by decide) (by decide) (by omega) (by omega) (fun M10 hE10 hc10 => ?_)
    have p10 := p9.step (k := 10) (n := 24) (by omega) (by omega) rfl (by decide) hE10 hc10
    clear p9 hE10 hc10
    refine g_aload_n dX0_copyFrom_149 rfl ?_
    refine g_getr (j := 13) dX0_copyFrom_150 gc0 rfl (by decide) rfl (by decide) fl_B_43 ?_
    refine g_aload_n dX0_copyFrom_153 rfl ?_
    refine g_getr (j := 13) dX0_copyFrom_154 gc0 rfl (by decide) rfl (by decide) fl_B_43 ?_
    refine g_calls2 dX0_copyFrom_157 clB_copyRow ml_B_142 (Nat.le_of_ble_eq_true rfl) ?_
    refine SB_copyRow (A := 12) (B := 25) (n := 24) rfl rfl (by decide) (by decide) (by omega) (by omega) (fun M11 hE11 hc11 => ?_)
    have p11 := p10.step (k := 11) (n := 24) (by omega) (by omega) rfl (by decide) hE11 hc11
    clear p10 hE11 hc11
    refine g_aload_n dX0_copyFrom_160 rfl ?_
    refine g_getr (j := 14) dX0_copyFrom_161 gc0 rfl (by decide) rfl (by decide) fl_B_46 ?_
    refine g_aload_n dX0_copyFrom_164 rfl ?_
    refine g_getr (j := 14) dX0_copyFrom_165 gc0 rfl (by decide) rfl (by decide) fl_B_46 ?_
    refine g_calls2 dX0_copyFrom_168 clB_copyRow ml_B_142 (Nat.le_of_ble_eq_true rfl) ?_
    refine SB_copyRow (A := 13) (B := 26) (n := 192) rfl rfl (by decide) (by decide) (by omega) (by omega) (fun M12 hE12 hc12 => ?_)
    have p12 := p11.step (k := 12) (n := 192) (by omega) (by omega) rfl (by decide) hE12 hc12
    clear p11 hE12 hc12
    refine g_return dX0_copyFrom_171 rfl ?_
    exact h _ p12
  · obtain ⟨b, hb⟩ := hh i (by omega)
    have hb2 : M' 4 i = bI b := by rw [hE 4 (by decide), g0.1 4 (by omega)]; exact hb
    refine g_aload_n dX0_copyFrom_32 rfl ?_
    refine g_getr (j := 5) dX0_copyFrom_33 gc0 rfl (by decide) rfl (by decide) fl_B_18 ?_
    refine g_iload_n dX0_copyFrom_36 rfl ?_
    refine g_aload_n dX0_copyFrom_37 rfl ?_
    refine g_getr (j := 5) dX0_copyFrom_38 gc0 rfl (by decide) rfl (by decide) fl_B_18 ?_
    refine g_iload_n dX0_copyFrom_41 rfl ?_
    refine g_bald_n dX0_copyFrom_42 rfl (by decide) (by decide) (by omega) ?_
    try simp (disch := omega) only [hb2]
    refine g_bast_n dX0_copyFrom_43 rfl (by decide) (by decide) (by omega) (by first | rfl | exact vnar_bI _ | assumption) ?_
    first | refine g_incn3_2 dX0_copyFrom_44 ki_1 (by decide) rfl ?_ | refine g_incg3_2 (nI 1) dX0_copyFrom_44 ki_1 (by decide) rfl ?_
    refine g_goto 26 dX0_copyFrom_47 (by decide) ?_
    refine ih (by omega) _ (hE.tr (EqO.set (by decide))) (fun j hj => ?_)
    by_cases e : j = i
    · subst e; rw [mset_at, ← hb2, hE 4 (by decide)]
    · rw [mset_off (by omega)]; exact hc j (by omega)
theorem SB_copyFrom_1 {d : Nat} {M : Mm} {Q : Po} (hh : ∀ j, j < 8 → ∃ b, M 17 j = bI b) (h : ∀ M', CPs 1 14 [12, 11, 10, 9, 8, 7, 6, 5, 4, 2, 1, 3, 0] M M' → Q M' none) : Call (d + 2) mB_copyFrom [.ref 1, .ref 14] M Q := by
  refine Call_of (m := mB_copyFrom) [some (.ref 1), some (.ref 14), none] rfl (fun G => Nat.le_of_ble_eq_true rfl) (fun G => rfl) ?_
  refine g_aload_n dX0_copyFrom_0 rfl ?_
  refine g_aload_n dX0_copyFrom_1 rfl ?_
  refine g_geti (j := 0) dX0_copyFrom_2 gc0 rfl (by decide) rfl (by decide) fl_B_49 ?_
  try simp (disch := omega) only [mset_off]
  refine g_puti (j := 0) dX0_copyFrom_5 gc0 rfl (by decide) rfl (by decide) fl_B_49 rfl (tyX0_ok 0 (by decide)) (by first | rfl | exact nar_bI _) rfl ?_
  refine g_aload_n dX0_copyFrom_8 rfl ?_
  refine g_aload_n dX0_copyFrom_9 rfl ?_
  refine g_geti (j := 1) dX0_copyFrom_10 gc0 rfl (by decide) rfl (by decide) fl_B_53 ?_
  try simp (disch := omega) only [mset_off]
  refine g_puti (j := 1) dX0_copyFrom_13 gc0 rfl (by decide) rfl (by decide) fl_B_53 rfl (tyX0_ok 1 (by decide)) (by first | rfl | exact nar_bI _) rfl ?_
  refine g_aload_n dX0_copyFrom_16 rfl ?_
  refine g_aload_n dX0_copyFrom_17 rfl ?_
  refine g_geti (j := 2) dX0_copyFrom_18 gc0 rfl (by decide) rfl (by decide) fl_B_139 ?_
  try simp (disch := omega) only [mset_off]
  refine g_puti (j := 2) dX0_copyFrom_21 gc0 rfl (by decide) rfl (by decide) fl_B_139 rfl (tyX0_ok 2 (by decide)) (by first | rfl | exact nar_bI _) rfl ?_
  refine g_iconst (nI 0) dX0_copyFrom_24 ki_0 ?_
  refine g_ist3_2 dX0_copyFrom_25 (by decide) rfl ?_
  generalize hM0 : mset (mset (mset M 1 0 (M 14 0)) 1 1 (M 14 1)) 1 2 (M 14 2) = M0
  have g0 : CPs 1 14 [0] M M0 := by
    rw [← hM0]
    refine ⟨fun a ha => ?_, fun k hk j hj => ?_⟩
    · rw [mset_ne (by omega), mset_ne (by omega), mset_ne (by omega)]
    · obtain rfl : k = 0 := by simpa using hk
      have hj3 : j < 3 := hj
      obtain rfl | rfl | rfl : j = 0 ∨ j = 1 ∨ j = 2 := by omega
      · rw [mset_off (by omega), mset_off (by omega)]; exact mset_at _ _ _ _
      · rw [mset_off (by omega)]; exact mset_at _ _ _ _
      · exact mset_at _ _ _ _
  clear hM0
  refine loop_up (P := fun i => ∀ M', EqO [4] M0 M' → (∀ j, j < i → M' 4 j = M0 17 j) → Go mB_copyFrom (d + 2) Q 26 [some (.ref 1), some (.ref 14), some (.int (nI i))] [] M') 8 ?_ 0 (Nat.zero_le _) M0 EqO.rf (fun j hj => absurd hj (by omega))
  intro i hi ih M' hE hc
  refine g_iload_n dX0_copyFrom_26 rfl ?_
  refine g_bipush (nI 8) dX0_copyFrom_27 kb_8 ?_
  refine g_icmp_ge_n 50 dX0_copyFrom_29 (by decide) (by omega) (by omega) (fun c29 => ?_) (fun c29 => ?_)
  · have g3 := g0.step (k := 3) (n := 8) (by omega) (by omega) rfl (by decide) hE (fun j hj => hc j (by omega))
    clear ih hc g0
    refine g_aload_n dX0_copyFrom_50 rfl ?_
    refine g_getr (j := 3) dX0_copyFrom_51 gc0 rfl (by decide) rfl (by decide) fl_B_9 ?_
    refine g_aload_n dX0_copyFrom_54 rfl ?_
    refine g_getr (j := 3) dX0_copyFrom_55 gc0 rfl (by decide) rfl (by decide) fl_B_9 ?_
    refine g_calls2 dX0_copyFrom_58 clB_copyRow ml_B_142 (Nat.le_of_ble_eq_true rfl) ?_
    refine SB_copyRow (A := 15) (B := 2) (n := 24) rfl rfl (by decide) (by decide) (by omega) (by omega) (fun M1 hE1 hc1 => ?_)
    have p1 := g3.step (k := 1) (n := 24) (by omega) (by omega) rfl (by decide) hE1 hc1
    clear g3 hE1 hc1
    refine g_aload_n dX0_copyFrom_61 rfl ?_
    refine g_getr (j := 4) dX0_copyFrom_62 gc0 rfl (by decide) rfl (by decide) fl_B_15 ?_
    refine g_aload_n dX0_copyFrom_65 rfl ?_
    refine g_getr (j := 4) dX0_copyFrom_66 gc0 rfl (by decide) rfl (by decide) fl_B_15 ?_
    refine g_calls2 dX0_copyFrom_69 clB_copyRow ml_B_142 (Nat.le_of_ble_eq_true rfl) ?_
    refine SB_copyRow (A := 16) (B := 3) (n := 8) rfl rfl (by decide) (by decide) (by omega) (by omega) (fun M2 hE2 hc2 => ?_)
    have p2 := p1.step (k := 2) (n := 8) (by omega) (by omega) rfl (by decide) hE2 hc2
    clear p1 hE2 hc2
    refine g_aload_n dX0_copyFrom_72 rfl ?_
    refine g_getr (j := 6) dX0_copyFrom_73 gc0 rfl (by decide) rfl (by decide) fl_B_22 ?_
    refine g_aload_n dX0_copyFrom_76 rfl ?_
    refine g_getr (j := 6) dX0_copyFrom_77 gc0 rfl (by decide) rfl (by decide) fl_B_22 ?_
    refine g_calls2 dX0_copyFrom_80 clB_copyRow ml_B_142 (Nat.le_of_ble_eq_true rfl) ?_
    refine SB_copyRow (A := 18) (B := 5) (n := 32) rfl rfl (by decide) (by decide) (by omega) (by omega) (fun M4 hE4 hc4 => ?_)
    have p4 := p2.step (k := 4) (n := 32) (by omega) (by omega) rfl (by decide) hE4 hc4
    clear p2 hE4 hc4
    refine g_aload_n dX0_copyFrom_83 rfl ?_
    refine g_getr (j := 7) dX0_copyFrom_84 gc0 rfl (by decide) rfl (by decide) fl_B_25 ?_
    refine g_aload_n dX0_copyFrom_87 rfl ?_
    refine g_getr (j := 7) dX0_copyFrom_88 gc0 rfl (by decide) rfl (by decide) fl_B_25 ?_
    refine g_calls2 dX0_copyFrom_91 clB_copyRow ml_B_142 (Nat.le_of_ble_eq_true rfl) ?_
    refine SB_copyRow (A := 19) (B := 6) (n := 8) rfl rfl (by decide) (by decide) (by omega) (by omega) (fun M5 hE5 hc5 => ?_)
    have p5 := p4.step (k := 5) (n := 8) (by omega) (by omega) rfl (by decide) hE5 hc5
    clear p4 hE5 hc5
    refine g_aload_n dX0_copyFrom_94 rfl ?_
    refine g_getr (j := 8) dX0_copyFrom_95 gc0 rfl (by decide) rfl (by decide) fl_B_28 ?_
    refine g_aload_n dX0_copyFrom_98 rfl ?_
    refine g_getr (j := 8) dX0_copyFrom_99 gc0 rfl (by decide) rfl (by decide) fl_B_28 ?_
    refine g_calls2 dX0_copyFrom_102 clB_copyRow ml_B_142 (Nat.le_of_ble_eq_true rfl) ?_
    refine SB_copyRow (A := 20) (B := 7) (n := 64) rfl rfl (by decide) (by decide) (by omega) (by omega) (fun M6 hE6 hc6 => ?_)
    have p6 := p5.step (k := 6) (n := 64) (by omega) (by omega) rfl (by decide) hE6 hc6
    clear p5 hE6 hc6
    refine g_aload_n dX0_copyFrom_105 rfl ?_
    refine g_getr (j := 9) dX0_copyFrom_106 gc0 rfl (by decide) rfl (by decide) fl_B_31 ?_
    refine g_aload_n dX0_copyFrom_109 rfl ?_
    refine g_getr (j := 9) dX0_copyFrom_110 gc0 rfl (by decide) rfl (by decide) fl_B_31 ?_
    refine g_calls2 dX0_copyFrom_113 clB_copyRow ml_B_142 (Nat.le_of_ble_eq_true rfl) ?_
    refine SB_copyRow (A := 21) (B := 8) (n := 64) rfl rfl (by decide) (by decide) (by omega) (by omega) (fun M7 hE7 hc7 => ?_)
    have p7 := p6.step (k := 7) (n := 64) (by omega) (by omega) rfl (by decide) hE7 hc7
    clear p6 hE7 hc7
    refine g_aload_n dX0_copyFrom_116 rfl ?_
    refine g_getr (j := 10) dX0_copyFrom_117 gc0 rfl (by decide) rfl (by decide) fl_B_34 ?_
    refine g_aload_n dX0_copyFrom_120 rfl ?_
    refine g_getr (j := 10) dX0_copyFrom_121 gc0 rfl (by decide) rfl (by decide) fl_B_34 ?_
    refine g_calls2 dX0_copyFrom_124 clB_copyRow ml_B_142 (Nat.le_of_ble_eq_true rfl) ?_
    refine SB_copyRow (A := 22) (B := 9) (n := 64) rfl rfl (by decide) (by decide) (by omega) (by omega) (fun M8 hE8 hc8 => ?_)
    have p8 := p7.step (k := 8) (n := 64) (by omega) (by omega) rfl (by decide) hE8 hc8
    clear p7 hE8 hc8
    refine g_aload_n dX0_copyFrom_127 rfl ?_
    refine g_getr (j := 11) dX0_copyFrom_128 gc0 rfl (by decide) rfl (by decide) fl_B_37 ?_
    refine g_aload_n dX0_copyFrom_131 rfl ?_
    refine g_getr (j := 11) dX0_copyFrom_132 gc0 rfl (by decide) rfl (by decide) fl_B_37 ?_
    refine g_calls2 dX0_copyFrom_135 clB_copyRow ml_B_142 (Nat.le_of_ble_eq_true rfl) ?_
    refine SB_copyRow (A := 23) (B := 10) (n := 24) rfl rfl (by decide) (by decide) (by omega) (by omega) (fun M9 hE9 hc9 => ?_)
    have p9 := p8.step (k := 9) (n := 24) (by omega) (by omega) rfl (by decide) hE9 hc9
    clear p8 hE9 hc9
    refine g_aload_n dX0_copyFrom_138 rfl ?_
    refine g_getr (j := 12) dX0_copyFrom_139 gc0 rfl (by decide) rfl (by decide) fl_B_40 ?_
    refine g_aload_n dX0_copyFrom_142 rfl ?_
    refine g_getr (j := 12) dX0_copyFrom_143 gc0 rfl (by decide) rfl (by decide) fl_B_40 ?_
    refine g_calls2 dX0_copyFrom_146 clB_copyRow ml_B_142 (Nat.le_of_ble_eq_true rfl) ?_
    refine SB_copyRow (A := 24) (B := 11) (n := 24) rfl rfl (by decide) (by decide) (by omega) (by omega) (fun M10 hE10 hc10 => ?_)
    have p10 := p9.step (k := 10) (n := 24) (by omega) (by omega) rfl (by decide) hE10 hc10
    clear p9 hE10 hc10
    refine g_aload_n dX0_copyFrom_149 rfl ?_
    refine g_getr (j := 13) dX0_copyFrom_150 gc0 rfl (by decide) rfl (by decide) fl_B_43 ?_
    refine g_aload_n dX0_copyFrom_153 rfl ?_
    refine g_getr (j := 13) dX0_copyFrom_154 gc0 rfl (by decide) rfl (by decide) fl_B_43 ?_
    refine g_calls2 dX0_copyFrom_157 clB_copyRow ml_B_142 (Nat.le_of_ble_eq_true rfl) ?_
    refine SB_copyRow (A := 25) (B := 12) (n := 24) rfl rfl (by decide) (by decide) (by omega) (by omega) (fun M11 hE11 hc11 => ?_)
    have p11 := p10.step (k := 11) (n := 24) (by omega) (by omega) rfl (by decide) hE11 hc11
    clear p10 hE11 hc11
    refine g_aload_n dX0_copyFrom_160 rfl ?_
    refine g_getr (j := 14) dX0_copyFrom_161 gc0 rfl (by decide) rfl (by decide) fl_B_46 ?_
    refine g_aload_n dX0_copyFrom_164 rfl ?_
    refine g_getr (j := 14) dX0_copyFrom_165 gc0 rfl (by decide) rfl (by decide) fl_B_46 ?_
    refine g_calls2 dX0_copyFrom_168 clB_copyRow ml_B_142 (Nat.le_of_ble_eq_true rfl) ?_
    refine SB_copyRow (A := 26) (B := 13) (n := 192) rfl rfl (by decide) (by decide) (by omega) (by omega) (fun M12 hE12 hc12 => ?_)
    have p12 := p11.step (k := 12) (n := 192) (by omega) (by omega) rfl (by decide) hE12 hc12
    clear p11 hE12 hc12
    refine g_return dX0_copyFrom_171 rfl ?_
    exact h _ p12
  · obtain ⟨b, hb⟩ := hh i (by omega)
    have hb2 : M' 17 i = bI b := by rw [hE 17 (by decide), g0.1 17 (by omega)]; exact hb
    refine g_aload_n dX0_copyFrom_32 rfl ?_
    refine g_getr (j := 5) dX0_copyFrom_33 gc0 rfl (by decide) rfl (by decide) fl_B_18 ?_
    refine g_iload_n dX0_copyFrom_36 rfl ?_
    refine g_aload_n dX0_copyFrom_37 rfl ?_
    refine g_getr (j := 5) dX0_copyFrom_38 gc0 rfl (by decide) rfl (by decide) fl_B_18 ?_
    refine g_iload_n dX0_copyFrom_41 rfl ?_
    refine g_bald_n dX0_copyFrom_42 rfl (by decide) (by decide) (by omega) ?_
    try simp (disch := omega) only [hb2]
    refine g_bast_n dX0_copyFrom_43 rfl (by decide) (by decide) (by omega) (by first | rfl | exact vnar_bI _ | assumption) ?_
    first | refine g_incn3_2 dX0_copyFrom_44 ki_1 (by decide) rfl ?_ | refine g_incg3_2 (nI 1) dX0_copyFrom_44 ki_1 (by decide) rfl ?_
    refine g_goto 26 dX0_copyFrom_47 (by decide) ?_
    refine ih (by omega) _ (hE.tr (EqO.set (by decide))) (fun j hj => ?_)
    by_cases e : j = i
    · subst e; rw [mset_at, ← hb2, hE 17 (by decide)]
    · rw [mset_off (by omega)]; exact hc j (by omega)
theorem SM_copies {d A B : Nat} {M : Mm} {Q : Po} (hA : sh A = .inl (false, 515)) (hB : sh B = .inl (false, 515)) (kA : A < NN) (kB : B < NN) (hne : A ≠ B) (h : ∀ M', EqO [B] M M' → (∀ j, j < 515 → M' B j = M A j) → Q M' none) : Call (d + 1) mM_copies [.ref A, .ref B] M Q := by
  refine Call_of (m := mM_copies) [some (.ref A), some (.ref B), none] rfl (fun G => Nat.le_of_ble_eq_true rfl) (fun G => rfl) ?_
  refine g_iconst (nI 0) dX10_copies_0 ki_0 ?_
  refine g_ist3_2 dX10_copies_1 (by decide) rfl ?_
  refine loop_up (P := fun i => ∀ M', EqO [B] M M' → (∀ j, j < i → M' B j = M A j) → Go mM_copies (d + 1) Q 2 [some (.ref A), some (.ref B), some (.int (nI i))] [] M') 515 ?_ 0 (Nat.zero_le _) M EqO.rf (fun j hj => absurd hj (by omega))
  intro i hi ih M' hE hc
  refine g_iload_n dX10_copies_2 rfl ?_
  refine g_sipush (nI 515) dX10_copies_3 ks_515 ?_
  refine g_icmp_ge_n 21 dX10_copies_6 (by decide) (by omega) (by omega) (fun c6 => ?_) (fun c6 => ?_)
  · refine g_return dX10_copies_21 rfl ?_
    exact h M' hE (fun j hj => hc j (by omega))
  · refine g_aload_n dX10_copies_9 rfl ?_
    refine g_iload_n dX10_copies_10 rfl ?_
    refine g_aload_n dX10_copies_11 rfl ?_
    refine g_iload_n dX10_copies_12 rfl ?_
    refine g_iald_n dX10_copies_13 (by first | rfl | assumption) (by first | decide | assumption) (by omega) (by omega) ?_
    refine g_iast_n dX10_copies_14 (by first | rfl | assumption) (by first | decide | assumption) (by omega) (by omega) ?_
    first | refine g_incn3_2 dX10_copies_15 ki_1 (by decide) rfl ?_ | refine g_incg3_2 (nI 1) dX10_copies_15 ki_1 (by decide) rfl ?_
    refine g_goto 2 dX10_copies_18 (by decide) ?_
    refine ih (by omega) _ (hE.tr (EqO.set (by simp))) (fun j hj => ?_)
    by_cases e : j = i
    · subst e; rw [mset_at, hE A (by simp [hne])]
    · rw [mset_off (by omega)]; exact hc j (by omega)
theorem MK.copy {w w' : Nat → Int32} {S : BS} (hM : MK w S) (h : ∀ j, j < 515 → w' j = w j) : MK w' S := hM.keep (fun j hj _ => h j hj) (hM.mx.keep (fun j hj => h j (by omega)))
theorem relB_cp {S : BS} (hW : WF S) {k j : Nat} (h : relB S k j) : 1 ≤ k ∧ k ≤ 13 ∧ j < cpL (k - 1) := by
  have h1 := hW.np
  have h2 := hW.nd
  unfold relB at h
  rcases h with ⟨rfl, h⟩ | ⟨rfl, h⟩ | ⟨rfl, h⟩ | ⟨rfl, h⟩ | ⟨rfl, h⟩ | ⟨rfl, h⟩ | ⟨rfl, h⟩ | ⟨rfl, h⟩ | ⟨rfl, h⟩ | ⟨rfl, h⟩ | ⟨rfl, h⟩ | ⟨rfl, h⟩ | ⟨rfl, h⟩ <;> refine ⟨by omega, by omega, ?_⟩
  · show j < 3; omega
  · show j < 24; omega
  · show j < 8; omega
  · show j < 8; omega
  · show j < 32; omega
  · show j < 8; omega
  · show j < 64; omega
  · show j < 64; omega
  · show j < 64; omega
  · show j < 24; omega
  · show j < 24; omega
  · show j < 24; omega
  · show j < 192; omega
theorem OT.img {M M' : Mm} {S : BS} {b : Bool} {S' : BS} {n : Nat} {t : Nat → Nat} {pn : Nat} {pf : Nat → Nat} (h : OT M b S' n t pn pf) (hH : HM S) (x1 : M' 0 2 = bI true) (x2 : BK (fun k => M' (k + 13)) S) (x3 : M' 57 2 = bI true) (x4 : MK (M' 59) S) (hk : ∀ k j, okO k j → k ≠ 0 → ¬ (14 ≤ k ∧ k ≤ 26) → ¬ (k = 57 ∧ j = 2) → k ≠ 59 → M' k j = M k j) : OT M' true S n t pn pf := by
  unfold okO at hk
  obtain ⟨h1, h2, h3, h4, ⟨a1, a2, a3, a4, a5, a6⟩, ⟨b1, b2, b3, b4, b5, b6⟩, c1, c2, c3⟩ := h
  refine ⟨fun _ => hH, h2, h3, h4, ⟨x1, fun _ => x2, ?_, fun i hi => ?_, ?_, fun i hi => ?_⟩, ⟨x3, fun _ => x4, ?_, fun i hi => ?_, ?_, fun i hi => ?_⟩, fun l hl => ?_, fun i hi => ?_, ⟨fun j hj => ?_, fun j hj => ?_⟩⟩
  · rw [hk 41 1 (by omega) (by omega) (by omega) (by omega) (by omega)]; exact a3
  · rw [hk 42 i (by omega) (by omega) (by omega) (by omega) (by omega)]; exact a4 i hi
  · rw [hk 52 1 (by omega) (by omega) (by omega) (by omega) (by omega)]; exact a5
  · rw [hk 53 i (by omega) (by omega) (by omega) (by omega) (by omega)]; exact a6 i hi
  · rw [hk 57 19 (by omega) (by omega) (by omega) (by omega) (by omega)]; exact b3
  · rw [hk 69 i (by omega) (by omega) (by omega) (by omega) (by omega)]; exact b4 i hi
  · rw [hk 57 31 (by omega) (by omega) (by omega) (by omega) (by omega)]; exact b5
  · rw [hk 74 i (by omega) (by omega) (by omega) (by omega) (by omega)]; exact b6 i hi
  · rw [hk 75 l (by omega) (by omega) (by omega) (by omega) (by omega), hk 56 l (by omega) (by omega) (by omega) (by omega) (by omega)]; exact c1 l hl
  · rw [hk 76 i (by omega) (by omega) (by omega) (by omega) (by omega), hk 55 i (by omega) (by omega) (by omega) (by omega) (by omega)]; exact c2 i hi
  · rw [hk 60 j (by omega) (by omega) (by omega) (by omega) (by omega)]; exact c3.1 j hj
  · rw [hk 61 j (by omega) (by omega) (by omega) (by omega) (by omega)]; exact c3.2 j hj
theorem both_image : Both mF_image mM_image [] := by
  intro M ⟨S, b, S', n, t, pn, pf, h1, h2, h3, h4⟩
  have hnp := h2.np
  refine Call_of (m := mF_image) [some (.ref 0)] rfl (fun G => Nat.le_of_ble_eq_true rfl) (fun G => rfl) ?_
  refine g_aload_n dX9_image_0 rfl ?_
  refine g_getr (j := 1) dX9_image_1 gc9 rfl (by decide) rfl (by decide) fl_F_19 ?_
  refine g_aload_n dX9_image_4 rfl ?_
  refine g_getr (j := 0) dX9_image_5 gc9 rfl (by decide) rfl (by decide) fl_F_13 ?_
  refine g_call1 dX9_image_8 clB_copyFrom ml_F_334 gc0 rfl rfl (by decide) (Nat.le_of_ble_eq_true rfl) ?_
  refine SB_copyFrom_14 (fun j hj => ⟨_, h2.here hj⟩) (fun M1 hc => ?_)
  have e1 : mset M1 0 2 (nI 1) 1 0 = nI (S 0 0 0) := by rw [mset_ne (by decide), hc.1 1 (by omega)]; exact hnp
  refine g_aload_n dX9_image_11 rfl ?_
  refine g_iconst (nI 1) dX9_image_12 ki_1 ?_
  refine g_puti (j := 2) dX9_image_13 gc9 rfl (by decide) rfl (by decide) fl_F_22 rfl (tyX9_ok 2 (by decide)) (by first | rfl | exact nar_bI _) rfl ?_
  refine g_aload_n dX9_image_16 rfl ?_
  refine g_getr (j := 0) dX9_image_17 gc9 rfl (by decide) rfl (by decide) fl_F_13 ?_
  refine g_geti (j := 0) dX9_image_20 gc0 rfl (by decide) rfl (by decide) fl_F_83 ?_
  try simp (disch := omega) only [e1]
  refine g_ireturn dX9_image_23 rfl (by first | rfl | exact nar_bI _) ?_
  generalize hM2 : mset M1 0 2 (nI 1) = M2
  have g0 : M2 0 2 = nI 1 := by rw [← hM2]; exact mset_at _ _ _ _
  have gk : ∀ k, k ≠ 0 → M2 k = M1 k := fun k hk => by rw [← hM2]; exact mset_ne hk
  clear hM2 e1
  refine ⟨IsI.rf, ?_⟩
  refine Call_of (m := mM_image) [some (.ref 57)] rfl (fun G => Nat.le_of_ble_eq_true rfl) (fun G => rfl) ?_
  refine g_aload_n dX10_image_0 rfl ?_
  refine g_iconst (nI 1) dX10_image_1 ki_1 ?_
  refine g_puti (j := 2) dX10_image_2 gc10 rfl (by decide) rfl (by decide) fl_M_384 rfl (tyX10_ok 2 (by decide)) (by first | rfl | exact nar_bI _) rfl ?_
  refine g_aload_n dX10_image_5 rfl ?_
  refine g_getr (j := 0) dX10_image_6 gc10 rfl (by decide) rfl (by decide) fl_M_9 ?_
  refine g_aload_n dX10_image_9 rfl ?_
  refine g_getr (j := 1) dX10_image_10 gc10 rfl (by decide) rfl (by decide) fl_M_13 ?_
  refine g_calls2 dX10_image_13 clM_copies ml_M_388 (Nat.le_of_ble_eq_true rfl) ?_
  refine SM_copies (A := 58) (B := 59) rfl rfl (by decide) (by decide) (by decide) (fun M3 hE hc3 => ?_)
  have k58 : M3 58 = M 58 := by rw [hE 58 (by decide), mset_ne (by decide), gk 58 (by decide), hc.1 58 (by omega)]
  have e2 : M3 58 0 = nI (S 0 0 0) := by rw [k58]; exact h3.np
  refine g_aload_n dX10_image_16 rfl ?_
  refine g_getr (j := 0) dX10_image_17 gc10 rfl (by decide) rfl (by decide) fl_M_9 ?_
  refine g_iconst (nI 0) dX10_image_20 ki_0 ?_
  refine g_iald_n dX10_image_21 (by first | rfl | assumption) (by first | decide | assumption) (by omega) (by omega) ?_
  try simp (disch := omega) only [e2]
  refine g_ireturn dX10_image_22 rfl (by first | rfl | exact nar_bI _) ?_
  have kk : ∀ k, k ≠ 57 → k ≠ 59 → M3 k = M2 k := fun k n1 n2 => by rw [hE k (by simp; omega), mset_ne n1]
  refine ⟨TyI.rf, S, true, S, n, t, pn, pf, h1, h2.off (fun k k1 k2 => ?_), by rw [k58]; exact h3, h4.img h1 ?_ ?_ ?_ ?_ (fun k j hk n1 n2 n3 n4 => ?_)⟩
  · rw [kk k (by omega) (by omega), gk k (by omega), hc.1 k (by omega)]
  · rw [kk 0 (by decide) (by decide)]; exact g0
  · refine BK.keep (M := M) h2 (fun k j hr => ?_)
    obtain ⟨r1, r2, r3⟩ := relB_cp h2.wf hr
    have := hc.all (k := k - 1) (j := j) (by omega) r3
    rw [show 14 + (k - 1) = k + 13 by omega, show 1 + (k - 1) = k by omega] at this
    show M3 (k + 13) j = M k j
    rw [kk _ (by omega) (by omega), gk _ (by omega)]
    exact this
  · rw [hE 57 (by decide), mset_at]; rfl
  · refine h3.copy (fun j hj => ?_)
    rw [hc3 j hj, mset_ne (by decide), gk 58 (by decide), hc.1 58 (by omega)]
  · rw [hE k (by simpa using n4)]
    by_cases z : k = 57
    · subst z
      rw [mset_off (by omega), gk 57 (by decide), hc.1 57 (by omega)]
    · rw [mset_ne z, gk k n1, hc.1 k (by omega)]
theorem both_undo : Both mF_undo mM_undo [] := by
  intro M hI
  obtain ⟨S, b, S', n, t, pn, pf, h1, h2, h3, h4⟩ := id hI
  have f1 : M 0 2 = bI b := h4.2.2.2.2.1.1
  have f2 : M 57 2 = bI b := h4.2.2.2.2.2.1.1
  cases b with
  | false =>
    refine Call_of (m := mF_undo) [some (.ref 0)] rfl (fun G => Nat.le_of_ble_eq_true rfl) (fun G => rfl) ?_
    refine g_aload_n dX9_undo_0 rfl ?_
    refine g_geti (j := 2) dX9_undo_1 gc9 rfl (by decide) rfl (by decide) fl_F_22 ?_
    try simp (disch := omega) only [f1]
    refine g_if_ne_ff 10 dX9_undo_4 (by decide) ?_
    refine g_bipush ((-3)) dX9_undo_7 kb_m3 ?_
    refine g_ireturn dX9_undo_9 rfl (by first | rfl | exact nar_bI _) ?_
    refine ⟨IsI.rf, ?_⟩
    refine Call_of (m := mM_undo) [some (.ref 57)] rfl (fun G => Nat.le_of_ble_eq_true rfl) (fun G => rfl) ?_
    refine g_aload_n dX10_undo_0 rfl ?_
    refine g_geti (j := 2) dX10_undo_1 gc10 rfl (by decide) rfl (by decide) fl_M_384 ?_
    try simp (disch := omega) only [f2]
    refine g_if_ne_ff 10 dX10_undo_4 (by decide) ?_
    refine g_bipush ((-3)) dX10_undo_7 kb_m3 ?_
    refine g_ireturn dX10_undo_9 rfl (by first | rfl | exact nar_bI _) ?_
    exact ⟨TyI.rf, hI⟩
  | true =>
    have hK : BK (fun k => M (k + 13)) S' := h4.2.2.2.2.1.2.1 rfl
    have hJ : MK (M 59) S' := h4.2.2.2.2.2.1.2.1 rfl
    have hO : HM S' := h4.1 rfl
    refine Call_of (m := mF_undo) [some (.ref 0)] rfl (fun G => Nat.le_of_ble_eq_true rfl) (fun G => rfl) ?_
    refine g_aload_n dX9_undo_0 rfl ?_
    refine g_geti (j := 2) dX9_undo_1 gc9 rfl (by decide) rfl (by decide) fl_F_22 ?_
    try simp (disch := omega) only [f1]
    refine g_if_ne_tt 10 dX9_undo_4 (by decide) ?_
    refine g_aload_n dX9_undo_10 rfl ?_
    refine g_getr (j := 0) dX9_undo_11 gc9 rfl (by decide) rfl (by decide) fl_F_13 ?_
    refine g_aload_n dX9_undo_14 rfl ?_
    refine g_getr (j := 1) dX9_undo_15 gc9 rfl (by decide) rfl (by decide) fl_F_19 ?_
    refine g_call1 dX9_undo_18 clB_copyFrom ml_F_334 gc0 rfl rfl (by decide) (Nat.le_of_ble_eq_true rfl) ?_
    refine SB_copyFrom_1 (fun j hj => ⟨_, hK.here hj⟩) (fun M1 hc => ?_)
    have k0 : M1 1 0 = M 14 0 := hc.all (k := 0) (j := 0) (by omega) (by decide)
    have k1 : M 14 0 = nI (S' 0 0 0) := hK.np
    rw [← k0] at k1
    refine g_aload_n dX9_undo_21 rfl ?_
    refine g_getr (j := 0) dX9_undo_22 gc9 rfl (by decide) rfl (by decide) fl_F_13 ?_
    refine g_geti (j := 0) dX9_undo_25 gc0 rfl (by decide) rfl (by decide) fl_F_83 ?_
    try simp (disch := omega) only [k1]
    refine g_ireturn dX9_undo_28 rfl (by first | rfl | exact nar_bI _) ?_
    have f3 : M1 57 2 = bI true := by rw [hc.1 57 (by omega)]; exact f2
    refine ⟨IsI.rf, ?_⟩
    refine Call_of (m := mM_undo) [some (.ref 57)] rfl (fun G => Nat.le_of_ble_eq_true rfl) (fun G => rfl) ?_
    refine g_aload_n dX10_undo_0 rfl ?_
    refine g_geti (j := 2) dX10_undo_1 gc10 rfl (by decide) rfl (by decide) fl_M_384 ?_
    try simp (disch := omega) only [f3]
    refine g_if_ne_tt 10 dX10_undo_4 (by decide) ?_
    refine g_aload_n dX10_undo_10 rfl ?_
    refine g_getr (j := 1) dX10_undo_11 gc10 rfl (by decide) rfl (by decide) fl_M_13 ?_
    refine g_aload_n dX10_undo_14 rfl ?_
    refine g_getr (j := 0) dX10_undo_15 gc10 rfl (by decide) rfl (by decide) fl_M_9 ?_
    refine g_calls2 dX10_undo_18 clM_copies ml_M_388 (Nat.le_of_ble_eq_true rfl) ?_
    refine SM_copies (A := 59) (B := 58) rfl rfl (by decide) (by decide) (by decide) (fun M3 hE hc3 => ?_)
    have hJ3 : MK (M3 58) S' := hJ.copy (fun j hj => by rw [hc3 j hj, hc.1 59 (by omega)])
    have e2 := hJ3.np
    refine g_aload_n dX10_undo_21 rfl ?_
    refine g_getr (j := 0) dX10_undo_22 gc10 rfl (by decide) rfl (by decide) fl_M_9 ?_
    refine g_iconst (nI 0) dX10_undo_25 ki_0 ?_
    refine g_iald_n dX10_undo_26 (by first | rfl | assumption) (by first | decide | assumption) (by omega) (by omega) ?_
    try simp (disch := omega) only [e2]
    refine g_ireturn dX10_undo_27 rfl (by first | rfl | exact nar_bI _) ?_
    refine ⟨TyI.rf, S', true, S', n, t, pn, pf, hO, ?_, hJ3, h4.keep (fun k j hk => ?_)⟩
    · refine BK.keep (M := fun k => M (k + 13)) hK (fun k j hr => ?_)
      obtain ⟨r1, r2, r3⟩ := relB_cp hK.wf hr
      have := hc.all (k := k - 1) (j := j) (by omega) r3
      rw [show 1 + (k - 1) = k by omega, show 14 + (k - 1) = k + 13 by omega] at this
      show M3 k j = M (k + 13) j
      rw [hE k (by simp; omega)]
      exact this
    · unfold okO at hk
      rw [hE k (by simp; omega), hc.1 k (by omega)]
