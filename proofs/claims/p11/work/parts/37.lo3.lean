/-! close -/
theorem sum_kinds (a b : Nat → Nat) (q : Nat) : ∀ {n : Nat}, (∀ d, d < n → a d < 4) → sumN (fun k => cnt (fun d => a d == k && b d == q) n) 4 = cnt (fun d => b d == q) n
  | 0, _ => rfl
  | n + 1, h => by
    have ih := sum_kinds a b q (n := n) (fun d hd => h d (by omega))
    have h4 := h n (by omega)
    have e1 : sumN (fun k => cnt (fun d => a d == k && b d == q) (n + 1)) 4 = sumN (fun k => cnt (fun d => a d == k && b d == q) n) 4 + sumN (fun k => if (a n == k && b n == q) = true then 1 else 0) 4 := by
      rw [← sumN_add]
      rfl
    rw [e1, ih, cnt]
    congr 1
    have h5 : a n = 0 ∨ a n = 1 ∨ a n = 2 ∨ a n = 3 := by omega
    by_cases e : (b n == q) = true
    · rcases h5 with z | z | z | z <;> simp [sumN, z, e]
    · rcases h5 with z | z | z | z <;> simp [sumN, z, e]
theorem heldAll_8 {S : BS} (hW : WF S) (q : Nat) : heldAll S q = cnt (fun d => S 12 d 0 == q) (S 1 0 0) := by
  have hw := hW.nd
  exact sum_kinds (fun d => S 11 d 0) (fun d => S 12 d 0) q (fun d hd => by have := hW.dk (d := d) (by omega); omega)
theorem cloS_wf {S : BS} (hW : WF S) : WF (cloS S) := by
  have o : ∀ {a b c : Nat}, a ≠ 1 → a ≠ 2 → a ≠ 5 → a ≠ 13 → cloS S a b c = S a b c := fun h1 h2 h5 h13 => by
    unfold cloS; rw [if_neg h1, if_neg h2, if_neg (fun q => h5 q.1), if_neg h13]
  have o1 : cloS S 1 0 0 = 0 := rfl
  have o5 : ∀ p k, p < S 0 0 0 → k < 4 → cloS S 5 p k = min (S 5 p k + heldN S p k) 999 := fun p k hp hk => by
    unfold cloS; rw [if_neg (by decide), if_neg (by decide), if_pos ⟨rfl, hp, hk⟩]
  have o13 : ∀ p d, cloS S 13 p d = 0 := fun p d => by
    unfold cloS; rw [if_neg (by decide), if_neg (by decide), if_neg (fun q => absurd q.1 (by decide)), if_pos rfl]
  have o0 : cloS S 0 0 0 = S 0 0 0 := o (by decide) (by decide) (by decide) (by decide)
  refine ⟨?_, ?_, fun p hp => ?_, fun p hp => ?_, fun p hp => ?_, fun p k hp hk => ?_, fun p hp => ?_, fun p q hp hq => ?_, fun e he => ?_, fun p d hp hd => ?_, fun p d hd => ?_⟩
  · rw [o0]; exact hW.np
  · rw [o1]; omega
  · rw [o (by decide) (by decide) (by decide) (by decide)]; exact hW.hN hp
  · rw [o0] at hp; rw [o (by decide) (by decide) (by decide) (by decide)]; exact hW.out hp
  · rw [o (by decide) (by decide) (by decide) (by decide)]; exact hW.rk hp
  · rcases Nat.lt_or_ge p (S 0 0 0) with z | z
    · rw [o5 p k z hk]; exact Nat.min_le_right _ _
    · have : cloS S 5 p k = S 5 p k := by
        unfold cloS; rw [if_neg (by decide), if_neg (by decide), if_neg (by omega), if_neg (by decide)]
      rw [this]; exact hW.ps hp hk
  · rw [o (by decide) (by decide) (by decide) (by decide)]; exact hW.nr hp
  · rw [o (a := 7) (by decide) (by decide) (by decide) (by decide), o (a := 8) (by decide) (by decide) (by decide) (by decide), o (a := 9) (by decide) (by decide) (by decide) (by decide)]; exact hW.rl hp hq
  · rw [o (a := 10) (by decide) (by decide) (by decide) (by decide), o (a := 11) (by decide) (by decide) (by decide) (by decide), o (a := 12) (by decide) (by decide) (by decide) (by decide)]; exact hW.dk he
  · rw [o13]; omega
  · rw [o13]
theorem MKclose {w w' : Nat → Int32} {S : BS} (hM : MK w (cloI S (S 0 0 0) 0)) (hW : WF S) (h1 : w' 1 = nI (S 2 0 0 + 1)) (h2 : w' 2 = nI 0) (hk : ∀ j, j ≠ 1 → j ≠ 2 → w' j = w j) (hq0 : 0 < S 1 0 0 → S 12 0 0 < 8 → S 12 0 0 < S 0 0 0) : MK w' (cloS S) := by
  have o : ∀ {a b c : Nat}, a ≠ 1 → a ≠ 2 → a ≠ 5 → a ≠ 13 → cloS S a b c = S a b c := fun h1 h2 h5 h13 => by
    unfold cloS; rw [if_neg h1, if_neg h2, if_neg (fun q => h5 q.1), if_neg h13]
  have o1 : cloS S 1 0 0 = 0 := rfl
  have o2 : cloS S 2 0 0 = S 2 0 0 + 1 := rfl
  have o5 : ∀ p k, p < S 0 0 0 → k < 4 → cloS S 5 p k = min (S 5 p k + heldN S p k) 999 := fun p k hp hk => by
    unfold cloS; rw [if_neg (by decide), if_neg (by decide), if_pos ⟨rfl, hp, hk⟩]
  have o0 : cloS S 0 0 0 = S 0 0 0 := o (by decide) (by decide) (by decide) (by decide)
  have i0 : ∀ a b c, a ≠ 5 → cloI S (S 0 0 0) 0 a b c = S a b c := fun a b c ha => by rw [cloI_oth ha]
  have e0 := i0 0 0 0 (by decide)
  have hw := hW.np
  refine ⟨cloS_wf hW, ?_, ?_, ?_, fun p hp => ?_, fun p k hp hk4 => ?_, fun p q hp hq => ?_, fun e he => ?_, fun p e hp he => ?_, ?_⟩
  · rw [o0, hk 0 (by decide) (by decide), hM.np, e0]
  · rw [o2]; exact h1
  · rw [o1]; exact h2
  · rw [o0] at hp
    rw [o (a := 4) (by decide) (by decide) (by decide) (by decide), o (a := 3) (by decide) (by decide) (by decide) (by decide), o (a := 6) (by decide) (by decide) (by decide) (by decide), hk (3 + p) (by omega) (by omega), hk (11 + p) (by omega) (by omega), hk (51 + p) (by omega) (by omega)]
    have x1 := hM.hN (p := p) (by rw [e0]; exact hp)
    have x2 := hM.rk (p := p) (by rw [e0]; exact hp)
    have x3 := hM.nr (p := p) (by rw [e0]; exact hp)
    rw [i0 4 p 0 (by decide)] at x1
    rw [i0 3 p 0 (by decide)] at x2
    rw [i0 6 p 0 (by decide)] at x3
    exact ⟨x1, x2, x3⟩
  · rw [o0] at hp
    rw [o5 p k hp hk4, hk (19 + 4 * p + k) (by omega) (by omega), hM.ps (by rw [e0]; exact hp) hk4]
    unfold cloI
    rw [if_pos ⟨rfl, hk4, Or.inl hp⟩]
  · rw [o0] at hp
    rw [o (a := 6) (by decide) (by decide) (by decide) (by decide)] at hq
    have y1 : p < cloI S (S 0 0 0) 0 0 0 0 := by rw [e0]; exact hp
    have y2 : q < cloI S (S 0 0 0) 0 6 p 0 := by rw [i0 6 p 0 (by decide)]; exact hq
    have x1 := hM.rs y1 y2
    have x2 := hM.ra y1 y2
    have x3 := hM.rb y1 y2
    rw [i0 7 p q (by decide)] at x1 x3
    rw [i0 8 p q (by decide)] at x2
    rw [i0 9 p q (by decide)] at x3
    rw [o (a := 7) (by decide) (by decide) (by decide) (by decide), o (a := 8) (by decide) (by decide) (by decide) (by decide), o (a := 9) (by decide) (by decide) (by decide) (by decide), hk (59 + 24 * p + 3 * q) (by omega) (by omega), hk (59 + 24 * p + 3 * q + 1) (by omega) (by omega), hk (59 + 24 * p + 3 * q + 2) (by omega) (by omega)]
    exact ⟨x1, x2, x3⟩
  · rw [o1] at he; omega
  · rw [o1] at he; omega
  · rw [o1]
    intro _
    have en : cloI S (S 0 0 0) 0 1 0 0 = S 1 0 0 := i0 1 0 0 (by decide)
    rcases Nat.eq_zero_or_pos (S 1 0 0) with z | z
    · obtain ⟨xa, xk, xq, xx, y1, y2, y3, y4, y5, y6, y7, y8⟩ := hM.mx (by rw [en]; exact z)
      refine ⟨xa, xk, xq, xx, y1, y2, y3, y4, ?_, ?_, ?_, fun hq => ?_⟩
      · rw [hk 251 (by omega) (by omega)]; exact y5
      · rw [hk 275 (by omega) (by omega)]; exact y6
      · rw [hk 299 (by omega) (by omega)]; exact y7
      · rw [hk _ (by omega) (by omega)]; exact y8 hq
    · have hdk := hW.dk (d := 0) (by omega)
      have x1 := hM.dy (d := 0) (by rw [en]; exact z)
      have x2 := hM.kd (d := 0) (by rw [en]; exact z)
      have x3 := hM.ho (d := 0) (by rw [en]; exact z)
      rw [i0 10 0 0 (by decide)] at x1
      rw [i0 11 0 0 (by decide)] at x2
      rw [i0 12 0 0 (by decide)] at x3
      by_cases h8 : S 12 0 0 < 8
      · have hp := hq0 z h8
        have x4 := hM.dl (p := S 12 0 0) (d := 0) (by rw [e0]; exact hp) (by rw [en]; exact z)
        rw [i0 13 _ 0 (by decide)] at x4
        refine ⟨S 10 0 0, S 11 0 0, S 12 0 0, S 13 (S 12 0 0) 0, hdk.1, hdk.2.1, hdk.2.2, hW.dl (by omega) (by omega), ?_, ?_, ?_, fun hq => ?_⟩
        · rw [hk 251 (by omega) (by omega)]; exact x1
        · rw [hk 275 (by omega) (by omega)]; exact x2
        · rw [hk 299 (by omega) (by omega)]; exact x3
        · rw [hk _ (by omega) (by omega)]; exact x4
      · refine ⟨S 10 0 0, S 11 0 0, S 12 0 0, 0, hdk.1, hdk.2.1, hdk.2.2, by omega, ?_, ?_, ?_, fun hq => absurd hq h8⟩
        · rw [hk 251 (by omega) (by omega)]; exact x1
        · rw [hk 275 (by omega) (by omega)]; exact x2
        · rw [hk 299 (by omega) (by omega)]; exact x3
theorem SM_openMany {d : Nat} {M : Mm} {S : BS} {Q : Po} (hM : MK (M 58) S) (h : Q M (some (.int (nI (heldAll S 8))))) : Call (d + 2) mM_openMany [.ref 57] M Q := by
  have hw := hM.wf.nd
  rw [heldAll_8 hM.wf] at h
  refine Call_of (m := mM_openMany) [some (.ref 57), none, none] rfl (fun G => Nat.le_of_ble_eq_true rfl) (fun G => rfl) ?_
  refine g_iconst (nI 0) dX10_openMany_0 ki_0 ?_
  refine g_ist3_1 dX10_openMany_1 (by decide) rfl ?_
  refine g_iconst (nI 0) dX10_openMany_2 ki_0 ?_
  refine g_ist3_2 dX10_openMany_3 (by decide) rfl ?_
  refine loop_up (P := fun i => Go mM_openMany (d + 2) Q 4 [some (.ref 57), some (.int (nI (cnt (fun d => S 12 d 0 == 8) i))), some (.int (nI i))] [] M) (S 1 0 0) ?_ 0 (Nat.zero_le _)
  intro i hi ih
  refine g_iload_n dX10_openMany_4 rfl ?_
  refine g_aload_n dX10_openMany_5 rfl ?_
  refine g_getr (j := 0) dX10_openMany_6 gc10 rfl (by decide) rfl (by decide) fl_M_9 ?_
  refine g_iconst (nI 2) dX10_openMany_9 ki_2 ?_
  refine g_iald_n dX10_openMany_10 (by first | rfl | assumption) (by first | decide | assumption) (by omega) (by omega) ?_
  try simp (disch := omega) only [hM.nd]
  refine g_icmp_ge_n 36 dX10_openMany_11 (by decide) (by omega) (by omega) (fun c11 => ?_) (fun c11 => ?_)
  · refine g_iload_n dX10_openMany_36 rfl ?_
    refine g_ireturn dX10_openMany_37 rfl (by first | rfl | exact nar_bI _) ?_
    rw [show i = S 1 0 0 by omega]; exact h
  · have ih2 := ih (by omega)
    have hd := hM.wf.dk (d := i) (by omega)
    have hc := cnt_le (fun d => S 12 d 0 == 8) i
    refine g_iload_n dX10_openMany_14 rfl ?_
    refine g_aload_n dX10_openMany_15 rfl ?_
    refine g_iload_n dX10_openMany_16 rfl ?_
    refine g_call1 dX10_openMany_17 clM_holder ml_M_78 gc10 rfl rfl (by decide) (Nat.le_of_ble_eq_true rfl) ?_
    refine SM_holder hM (by omega) ?_
    refine g_if_ge 27 dX10_openMany_20 (by decide) (fun c20 => ?_) (fun c20 => ?_)
    · have hne : (S 12 i 0 == 8) = false := by
        rw [beq_eq_false_iff_ne]
        intro z
        rw [z, hv_8] at c20
        exact absurd c20 (by decide)
      rw [cnt_f (by exact hne)] at ih2
      refine g_iconst (nI 0) dX10_openMany_27 ki_0 ?_
      first | refine g_iadd_n dX10_openMany_28 ?_ | refine g_iadd dX10_openMany_28 ?_
      refine g_ist3_1 dX10_openMany_29 (by decide) rfl ?_
      first | refine g_incn3_2 dX10_openMany_30 ki_1 (by decide) rfl ?_ | refine g_incg3_2 (nI 1) dX10_openMany_30 ki_1 (by decide) rfl ?_
      refine g_goto 4 dX10_openMany_33 (by decide) ?_
      exact ih2
    · have he : (S 12 i 0 == 8) = true := by
        rw [beq_iff_eq]
        rcases Nat.lt_or_ge (S 12 i 0) 8 with z | z
        · rw [hv_p z] at c20; exact absurd (nI_pos' (by omega)) c20
        · omega
      rw [cnt_t (by exact he)] at ih2
      refine g_iconst (nI 1) dX10_openMany_23 ki_1 ?_
      refine g_goto 28 dX10_openMany_24 (by decide) ?_
      first | refine g_iadd_n dX10_openMany_28 ?_ | refine g_iadd dX10_openMany_28 ?_
      refine g_ist3_1 dX10_openMany_29 (by decide) rfl ?_
      first | refine g_incn3_2 dX10_openMany_30 ki_1 (by decide) rfl ?_ | refine g_incg3_2 (nI 1) dX10_openMany_30 ki_1 (by decide) rfl ?_
      refine g_goto 4 dX10_openMany_33 (by decide) ?_
      exact ih2
def f_close (S : BS) : Int32 × BS := if heldAll S 8 = 0 then (nI (S 2 0 0 + 1), cloS S) else (-3, S)
theorem SF_close (M : Mm) (S : BS) (Q : Po) (hB : BK M S) (hH : HM S) (h : ∀ M', FrC M M' → BK M' (f_close S).2 → Q M' (some (.int (f_close S).1))) : Call 60 mF_close [.ref 0] M Q := by
  have hle : heldAll S 8 ≤ 24 := by
    rw [heldAll_8 hB.wf]
    have := cnt_le (fun d => S 12 d 0 == 8) (S 1 0 0)
    have := hB.wf.nd
    omega
  unfold f_close at h
  refine Call_of (m := mF_close) [some (.ref 0)] rfl (fun G => Nat.le_of_ble_eq_true rfl) (fun G => rfl) ?_
  refine g_aload_n dX9_close_0 rfl ?_
  refine g_getr (j := 0) dX9_close_1 gc9 rfl (by decide) rfl (by decide) fl_F_13 ?_
  refine g_call0 dX9_close_4 clB_countOpen ml_F_244 gc0 rfl rfl (by decide) (Nat.le_of_ble_eq_true rfl) ?_
  refine SB_countOpen hB ?_
  refine g_if_le_n 13 dX9_close_7 (by decide) (by omega) (fun c7 => ?_) (fun c7 => ?_)
  · rw [if_pos c7] at h
    refine g_aload_n dX9_close_13 rfl ?_
    refine g_getr (j := 0) dX9_close_14 gc9 rfl (by decide) rfl (by decide) fl_F_13 ?_
    refine g_call0 dX9_close_17 clB_closeYear ml_F_247 gc0 rfl rfl (by decide) (Nat.le_of_ble_eq_true rfl) ?_
    refine SB_closeYear hB (fun M' hE hB' => ?_)
    refine g_aload_n dX9_close_20 rfl ?_
    refine g_getr (j := 0) dX9_close_21 gc9 rfl (by decide) rfl (by decide) fl_F_13 ?_
    refine g_geti (j := 2) dX9_close_24 gc0 rfl (by decide) rfl (by decide) fl_F_250 ?_
    try simp (disch := omega) only [hB'.yr]
    refine g_ireturn dX9_close_27 rfl (by first | rfl | exact nar_bI _) ?_
    exact h M' (FrC.of hE (by decide)) hB'
  · rw [if_neg c7] at h
    refine g_bipush ((-3)) dX9_close_10 kb_m3 ?_
    refine g_ireturn dX9_close_12 rfl (by first | rfl | exact nar_bI _) ?_
    exact h M FrC.rf hB
theorem SM_close (M : Mm) (S : BS) (Q : Po) (hM : MK (M 58) S) (hC : MC M) (hH : HM S) (h : ∀ M', FrM M M' → MK (M' 58) (f_close S).2 → Q M' (some (.int (f_close S).1))) : Call 60 mM_close [.ref 57] M Q := by
  have hw := hM.wf.np
  have hle : heldAll S 8 ≤ 24 := by
    rw [heldAll_8 hM.wf]
    have := cnt_le (fun d => S 12 d 0 == 8) (S 1 0 0)
    have := hM.wf.nd
    omega
  have e0 : ∀ n k, cloI S n k 0 0 0 = S 0 0 0 := fun n k => by rw [cloI_oth (by decide)]
  unfold f_close at h
  refine Call_of (m := mM_close) [some (.ref 57), none, none] rfl (fun G => Nat.le_of_ble_eq_true rfl) (fun G => rfl) ?_
  refine g_aload_n dX10_close_0 rfl ?_
  refine g_call0 dX10_close_1 clM_openMany ml_M_228 gc10 rfl rfl (by decide) (Nat.le_of_ble_eq_true rfl) ?_
  refine SM_openMany hM ?_
  refine g_if_le_n 10 dX10_close_4 (by decide) (by omega) (fun c4 => ?_) (fun c4 => ?_)
  · rw [if_pos c4] at h
    refine g_iconst (nI 0) dX10_close_10 ki_0 ?_
    refine g_ist3_1 dX10_close_11 (by decide) rfl ?_
    refine loop_up (P := fun i => ∀ M', EqO [58] M M' → MK (M' 58) (cloI S i 0) → Go mM_close 60 Q 12 [some (.ref 57), some (.int (nI i)), none] [] M') (S 0 0 0) ?_ 0 (Nat.zero_le _) M EqO.rf ?_
    rotate_left
    · rw [show cloI S 0 0 = S from ?_]
      · exact hM
      · funext a b c; unfold cloI; rw [if_neg (by omega)]
    intro i hi ih M' hE hM'
    refine g_iload_n dX10_close_12 rfl ?_
    refine g_aload_n dX10_close_13 rfl ?_
    refine g_getr (j := 0) dX10_close_14 gc10 rfl (by decide) rfl (by decide) fl_M_9 ?_
    refine g_iconst (nI 0) dX10_close_17 ki_0 ?_
    refine g_iald_n dX10_close_18 (by first | rfl | assumption) (by first | decide | assumption) (by omega) (by omega) ?_
    try simp (disch := omega) only [hM'.np, e0]
    refine g_icmp_ge_n 67 dX10_close_19 (by decide) (by omega) (by omega) (fun c19 => ?_) (fun c19 => ?_)
    · obtain rfl : i = S 0 0 0 := by omega
      have ey : M' 58 1 = nI (S 2 0 0) := by
        have := hM'.yr
        rw [cloI_oth (by decide)] at this
        exact this
      skip
      refine g_aload_n dX10_close_67 rfl ?_
      refine g_getr (j := 0) dX10_close_68 gc10 rfl (by decide) rfl (by decide) fl_M_9 ?_
      refine g_iconst (nI 2) dX10_close_71 ki_2 ?_
      refine g_iconst (nI 0) dX10_close_72 ki_0 ?_
      refine g_iast_n dX10_close_73 (by first | rfl | assumption) (by first | decide | assumption) (by omega) (by omega) ?_
      refine g_aload_n dX10_close_74 rfl ?_
      refine g_getr (j := 0) dX10_close_75 gc10 rfl (by decide) rfl (by decide) fl_M_9 ?_
      refine g_iconst (nI 1) dX10_close_78 ki_1 ?_
      refine g_dup2 dX10_close_79 rfl rfl ?_
      refine g_iald_n dX10_close_80 (by first | rfl | assumption) (by first | decide | assumption) (by omega) (by omega) ?_
      try simp (disch := omega) only [mset_off, mset_at, ey]
      refine g_iconst (nI 1) dX10_close_81 ki_1 ?_
      first | refine g_iadd_n dX10_close_82 ?_ | refine g_iadd dX10_close_82 ?_
      refine g_iast_n dX10_close_83 (by first | rfl | assumption) (by first | decide | assumption) (by omega) (by omega) ?_
      refine g_aload_n dX10_close_84 rfl ?_
      refine g_getr (j := 0) dX10_close_85 gc10 rfl (by decide) rfl (by decide) fl_M_9 ?_
      refine g_iconst (nI 1) dX10_close_88 ki_1 ?_
      refine g_iald_n dX10_close_89 (by first | rfl | assumption) (by first | decide | assumption) (by omega) (by omega) ?_
      try simp (disch := omega) only [mset_off, mset_at, ey]
      refine g_ireturn dX10_close_90 rfl (by first | rfl | exact nar_bI _) ?_
      refine h (mset (mset M' 58 2 (nI 0)) 58 1 (nI (S 2 0 0 + 1))) (FrM.of (hE.tr ((EqO.set (by decide)).tr (EqO.set (by decide)))) (by decide)) (MKclose hM' hM.wf ?_ ?_ (fun j h1 h2 => ?_) (fun hn hq => ?_))
      · rw [mset_at]
      · rw [mset_off (by omega), mset_at]
      · rw [mset_off (by omega), mset_off (by omega)]
      · rcases Nat.lt_or_ge (S 12 0 0) (S 0 0 0) with z | z
        · exact z
        · exact absurd (hM.wf.out z) (by rw [hH.here hn hq]; decide)
    · refine g_iconst (nI 0) dX10_close_22 ki_0 ?_
      refine g_ist3_2 dX10_close_23 (by decide) rfl ?_
      refine loop_up (P := fun j => ∀ M', EqO [58] M M' → MK (M' 58) (cloI S i j) → Go mM_close 60 Q 24 [some (.ref 57), some (.int (nI i)), some (.int (nI j))] [] M') 4 ?_ 0 (Nat.zero_le _) M' hE hM'
      intro j hj jh M2 hE2 hM2
      refine g_iload_n dX10_close_24 rfl ?_
      refine g_iconst (nI 4) dX10_close_25 ki_4 ?_
      refine g_icmp_ge_n 61 dX10_close_26 (by decide) (by omega) (by omega) (fun c26 => ?_) (fun c26 => ?_)
      · first | refine g_incn3_1 dX10_close_61 ki_1 (by decide) rfl ?_ | refine g_incg3_1 (nI 1) dX10_close_61 ki_1 (by decide) rfl ?_
        refine g_goto 12 dX10_close_64 (by decide) ?_
        refine Go_sub [some (.ref 57), some (.int (nI (i + 1))), none] (by simp [subL]) (ih (by omega) _ hE2 ?_)
        rw [show cloI S (i + 1) 0 = cloI S i j from ?_]
        · exact hM2
        · have : j = 4 := by omega
          subst this
          funext a b c
          unfold cloI
          by_cases z : a = 5 ∧ c < 4 ∧ (b < i ∨ (b = i ∧ c < 4))
          · rw [if_pos z, if_pos (by omega)]
          · rw [if_neg z, if_neg (by omega)]
      · have hps : cloI S i j 5 i j = S 5 i j := by unfold cloI; rw [if_neg (by omega)]
        have hb1 := hM.wf.ps (p := i) (k := j) (by omega) (by omega)
        have hb2 := heldF_le S (fun d => S 12 d 0) i j
        have hb3 := hM.wf.nd
        have hb4 : heldN S i j ≤ 24 := by unfold heldN; omega
        refine g_aload_n dX10_close_29 rfl ?_
        refine g_getr (j := 0) dX10_close_30 gc10 rfl (by decide) rfl (by decide) fl_M_9 ?_
        refine g_bipush (nI 19) dX10_close_33 kb_19 ?_
        refine g_iconst (nI 4) dX10_close_35 ki_4 ?_
        refine g_iload_n dX10_close_36 rfl ?_
        first | refine g_imul_n dX10_close_37 ?_ | refine g_imul dX10_close_37 ?_
        first | refine g_iadd_n dX10_close_38 ?_ | refine g_iadd dX10_close_38 ?_
        refine g_iload_n dX10_close_39 rfl ?_
        first | refine g_iadd_n dX10_close_40 ?_ | refine g_iadd dX10_close_40 ?_
        refine g_sipush (nI 999) dX10_close_41 ks_999 ?_
        refine g_aload_n dX10_close_44 rfl ?_
        refine g_iload_n dX10_close_45 rfl ?_
        refine g_iload_n dX10_close_46 rfl ?_
        refine g_iconst (nI 1) dX10_close_47 ki_1 ?_
        refine g_call3 dX10_close_48 clM_load ml_M_92 gc10 rfl rfl (by decide) (Nat.le_of_ble_eq_true rfl) ?_
        refine SM_loadT hM2 (by rw [e0]; omega) (by omega) ?_
        rw [cloI_held, hps]
        refine g_mmin dX10_close_51 mm_M_231 ms_min ti_java_lang_Math mc_min (Nat.le_of_ble_eq_true rfl) ?_
        rw [nI_min _ _ (by omega) (by omega), Nat.min_comm]
        refine g_iast_n dX10_close_54 (by first | rfl | assumption) (by first | decide | assumption) (by omega) (by omega) ?_
        first | refine g_incn3_2 dX10_close_55 ki_1 (by decide) rfl ?_ | refine g_incg3_2 (nI 1) dX10_close_55 ki_1 (by decide) rfl ?_
        refine g_goto 24 dX10_close_58 (by decide) ?_
        refine jh (by omega) _ (hE2.tr (EqO.set (by decide))) ?_
        rw [cloI_step _ _ _ (by omega), mset_row]
        exact MKpast1 hM2 (by rw [e0]; omega) (by omega) (Nat.min_le_right _ _)
  · rw [if_neg c4] at h
    refine g_bipush ((-3)) dX10_close_7 kb_m3 ?_
    refine g_ireturn dX10_close_9 rfl (by first | rfl | exact nar_bI _) ?_
    exact h M FrM.rf hM
theorem both_close : Both mF_close mM_close [] := both_book f_close (fun M S Q => SF_close M S Q) (fun M S Q => SM_close M S Q) (fun S hW hH => by
  unfold f_close
  split
  · intro d hd
    exact absurd hd (Nat.not_lt_zero d)
  · exact hH)
