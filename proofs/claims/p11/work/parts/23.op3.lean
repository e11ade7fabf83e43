/-! of -/
def inK (a : Nat) (x : Int32) : Bool := decide ((a : Int) ≤ x.toInt ∧ x.toInt < (a : Int) + 4)
theorem SF_isKindAfter {d : Nat} {M : Mm} {Q : Po} {a : Nat} (x : Int32) (ha : a < 100) (h : Q M (some (.int (bI (inK a x))))) : Call (d + 1) mF_isKindAfter [.int (nI a), .int x] M Q := by
  refine Call_of (m := mF_isKindAfter) [some (.int (nI a)), some (.int x)] rfl (fun G => Nat.le_of_ble_eq_true rfl) (fun G => rfl) ?_
  refine g_iload_n dX9_isKindAfter_0 rfl ?_
  refine g_iload_n dX9_isKindAfter_1 rfl ?_
  refine g_icmp_lt 16 dX9_isKindAfter_2 (by decide) (fun c2 => ?_) (fun c2 => ?_)
  · rw [toInt_ltnI (by omega)] at c2
    refine g_iconst (nI 0) dX9_isKindAfter_16 ki_0 ?_
    refine g_ireturn dX9_isKindAfter_17 rfl (by first | rfl | exact nar_bI _) ?_
    exact qb_f h (decide_eq_false (by omega))
  · rw [toInt_ltnI (by omega)] at c2
    refine g_iload_n dX9_isKindAfter_5 rfl ?_
    refine g_iload_n dX9_isKindAfter_6 rfl ?_
    refine g_iconst (nI 4) dX9_isKindAfter_7 ki_4 ?_
    first | refine g_iadd_n dX9_isKindAfter_8 ?_ | refine g_iadd dX9_isKindAfter_8 ?_
    refine g_icmp_ge 16 dX9_isKindAfter_9 (by decide) (fun c9 => ?_) (fun c9 => ?_)
    · rw [lenI_toInt (by omega)] at c9
      refine g_iconst (nI 0) dX9_isKindAfter_16 ki_0 ?_
      refine g_ireturn dX9_isKindAfter_17 rfl (by first | rfl | exact nar_bI _) ?_
      exact qb_f h (decide_eq_false (by omega))
    · rw [lenI_toInt (by omega)] at c9
      refine g_iconst (nI 1) dX9_isKindAfter_12 ki_1 ?_
      refine g_goto 17 dX9_isKindAfter_13 (by decide) ?_
      refine g_ireturn dX9_isKindAfter_17 rfl (by first | rfl | exact nar_bI _) ?_
      exact qb_t h (decide_eq_true (by omega))
theorem inK_true {a : Nat} {x : Int32} (ha : a < 100) (h : inK a x = true) : ∃ k, k < 4 ∧ x = nI (a + k) := by
  unfold inK at h
  simp only [decide_eq_true_eq] at h
  refine ⟨x.toInt.toNat - a, by omega, ?_⟩
  apply Int32.toInt_inj.mp
  rw [nI_toInt (by omega)]
  omega
theorem inK_nI {a u : Nat} (hu : u < 2 ^ 31) : inK a (nI u) = decide (a ≤ u ∧ u < a + 4) := by
  unfold inK
  rw [nI_toInt hu]
  congr 1
  exact propext ⟨fun q => by omega, fun q => by omega⟩
theorem inK_out {a : Nat} {x : Int32} (ha : a + 4 ≤ 40) (h : inR x 40 = false) : inK a x = false := by
  unfold inR at h
  unfold inK
  simp only [decide_eq_false_iff_not] at h ⊢
  omega
def vo (S : BS) (p u : Nat) : Int32 := if u = 0 then nI (S 3 p 0) else if u = 1 then nI (S 4 p 0) else if u = 2 then nI (burN S p) else if u = 3 then nI (heldAll S p) else if u = 4 then nI (S 6 p 0) else if 10 ≤ u ∧ u < 14 then nI (S 5 p (u - 10)) else if 20 ≤ u ∧ u < 24 then nI (headN S p (u - 20)) else if 30 ≤ u ∧ u < 34 then nI (loadN S p (u - 30)) else -1
def f_of (x w : Int32) (S : BS) : Int32 × BS := (if inR x (S 0 0 0) = true then (if inR w 40 = true then vo S (v2n x) (v2n w) else -1) else -1, S)
theorem SF_of (x w : Int32) (M : Mm) (S : BS) (Q : Po) (hB : BK M S) (hH : HM S) (h : ∀ M', FrC M M' → BK M' (f_of x w S).2 → Q M' (some (.int (f_of x w S).1))) : Call 60 mF_of [.ref 0, .int x, .int w] M Q := by
  have hw := hB.wf.np
  have h2 := h M FrC.rf hB
  unfold f_of at h2
  dsimp only at h2
  clear h
  refine Call_of (m := mF_of) [some (.ref 0), some (.int x), some (.int w)] rfl (fun G => Nat.le_of_ble_eq_true rfl) (fun G => rfl) ?_
  refine g_aload_n dX9_of_0 rfl ?_
  refine g_getr (j := 0) dX9_of_1 gc9 rfl (by decide) rfl (by decide) fl_F_13 ?_
  refine g_iload_n dX9_of_4 rfl ?_
  refine g_call1 dX9_of_5 clB_isOne ml_F_91 gc0 rfl rfl (by decide) (Nat.le_of_ble_eq_true rfl) ?_
  refine SB_isOne hB x ?_
  refine g_if_ne_b 13 dX9_of_8 (by decide) (fun c8 => ?_) (fun c8 => ?_)
  · obtain ⟨p, hp, rfl⟩ := inR_true c8
    rw [if_pos c8, v2n_nI (show p < 2 ^ 31 by omega)] at h2
    have h1 := hB.wf.hN (p := p) (by omega)
    refine g_bipush (nI 10) dX9_of_13 kb_10 ?_
    refine g_iload_n dX9_of_15 rfl ?_
    refine g_calls2 dX9_of_16 clF_isKindAfter ml_F_117 (Nat.le_of_ble_eq_true rfl) ?_
    refine SF_isKindAfter _ (by omega) ?_
    refine g_if_eq_b 35 dX9_of_19 (by decide) (fun c19 => ?_) (fun c19 => ?_)
    · refine g_bipush (nI 20) dX9_of_35 kb_20 ?_
      refine g_iload_n dX9_of_37 rfl ?_
      refine g_calls2 dX9_of_38 clF_isKindAfter ml_F_117 (Nat.le_of_ble_eq_true rfl) ?_
      refine SF_isKindAfter _ (by omega) ?_
      refine g_if_eq_b 57 dX9_of_41 (by decide) (fun c41 => ?_) (fun c41 => ?_)
      · refine g_bipush (nI 30) dX9_of_57 kb_30 ?_
        refine g_iload_n dX9_of_59 rfl ?_
        refine g_calls2 dX9_of_60 clF_isKindAfter ml_F_117 (Nat.le_of_ble_eq_true rfl) ?_
        refine SF_isKindAfter _ (by omega) ?_
        refine g_if_eq_b 79 dX9_of_63 (by decide) (fun c63 => ?_) (fun c63 => ?_)
        · by_cases h5 : inR w 5 = true
          · obtain ⟨u, hu, rfl⟩ := inR_true h5
            rw [if_pos (by rw [inR_nI (by omega)]; exact decide_eq_true (by omega)), v2n_nI (by omega)] at h2
            refine g_iload_n dX9_of_79 rfl ?_
            obtain rfl | rfl | rfl | rfl | rfl : u = 0 ∨ u = 1 ∨ u = 2 ∨ u = 3 ∨ u = 4 := by omega
            · skip
              refine g_tswI (off := 36) 116 dX9_of_80 (by decide) (by decide) (by decide) (by decide) ?_
              refine g_aload_n dX9_of_116 rfl ?_
              refine g_getr (j := 0) dX9_of_117 gc9 rfl (by decide) rfl (by decide) fl_F_13 ?_
              refine g_iload_n dX9_of_120 rfl ?_
              refine g_call1 dX9_of_121 clB_rankOf ml_F_127 gc0 rfl rfl (by decide) (Nat.le_of_ble_eq_true rfl) ?_
              refine SB_rankOf hB hp ?_
              refine g_ireturn dX9_of_124 rfl (by first | rfl | exact nar_bI _) ?_
              exact h2
            · skip
              refine g_tswI (off := 45) 125 dX9_of_80 (by decide) (by decide) (by decide) (by decide) ?_
              refine g_aload_n dX9_of_125 rfl ?_
              refine g_getr (j := 0) dX9_of_126 gc9 rfl (by decide) rfl (by decide) fl_F_13 ?_
              refine g_iload_n dX9_of_129 rfl ?_
              refine g_call1 dX9_of_130 clB_isHere ml_F_95 gc0 rfl rfl (by decide) (Nat.le_of_ble_eq_true rfl) ?_
              refine SB_isHere hB (by omega) ?_
              refine g_if_eq_b 140 dX9_of_133 (by decide) (fun c133 => ?_) (fun c133 => ?_)
              · refine g_iconst (nI 0) dX9_of_140 ki_0 ?_
                refine g_ireturn dX9_of_141 rfl (by first | rfl | exact nar_bI _) ?_
                have h0 : S 4 p 0 = 0 := by
                  unfold hr at c133
                  have : ¬ S 4 p 0 = 1 := by simpa using c133
                  omega
                unfold vo at h2
                rw [if_neg (by omega), if_pos rfl, h0] at h2
                exact h2
              · refine g_iconst (nI 1) dX9_of_136 ki_1 ?_
                refine g_goto 141 dX9_of_137 (by decide) ?_
                refine g_ireturn dX9_of_141 rfl (by first | rfl | exact nar_bI _) ?_
                have h0 : S 4 p 0 = 1 := hr_of.mp c133
                unfold vo at h2
                rw [if_neg (by omega), if_pos rfl, h0] at h2
                exact h2
            · skip
              refine g_tswI (off := 62) 142 dX9_of_80 (by decide) (by decide) (by decide) (by decide) ?_
              refine g_aload_n dX9_of_142 rfl ?_
              refine g_getr (j := 0) dX9_of_143 gc9 rfl (by decide) rfl (by decide) fl_F_13 ?_
              refine g_iload_n dX9_of_146 rfl ?_
              refine g_call1 dX9_of_147 clB_burdenOf ml_F_130 gc0 rfl rfl (by decide) (Nat.le_of_ble_eq_true rfl) ?_
              refine SB_burdenOf hB hp ?_
              refine g_ireturn dX9_of_150 rfl (by first | rfl | exact nar_bI _) ?_
              exact h2
            · skip
              refine g_tswI (off := 71) 151 dX9_of_80 (by decide) (by decide) (by decide) (by decide) ?_
              refine g_aload_n dX9_of_151 rfl ?_
              refine g_getr (j := 0) dX9_of_152 gc9 rfl (by decide) rfl (by decide) fl_F_13 ?_
              refine g_iload_n dX9_of_155 rfl ?_
              refine g_call1 dX9_of_156 clB_countHeldBy ml_F_133 gc0 rfl rfl (by decide) (Nat.le_of_ble_eq_true rfl) ?_
              rw [← hv_p (p := p) (by omega)]
              refine SB_countHeldBy hB (by omega) ?_
              refine g_ireturn dX9_of_159 rfl (by first | rfl | exact nar_bI _) ?_
              exact h2
            · skip
              refine g_tswI (off := 80) 160 dX9_of_80 (by decide) (by decide) (by decide) (by decide) ?_
              refine g_aload_n dX9_of_160 rfl ?_
              refine g_getr (j := 0) dX9_of_161 gc9 rfl (by decide) rfl (by decide) fl_F_13 ?_
              refine g_iload_n dX9_of_164 rfl ?_
              refine g_call1 dX9_of_165 clB_countRulesOf ml_F_136 gc0 rfl rfl (by decide) (Nat.le_of_ble_eq_true rfl) ?_
              refine SB_countRulesOf hB hp ?_
              refine g_ireturn dX9_of_168 rfl (by first | rfl | exact nar_bI _) ?_
              exact h2
          · have hx : w.toInt < 0 ∨ 4 < w.toInt := by
              unfold inR at h5
              simp only [decide_eq_true_eq] at h5
              omega
            have hm : (if inR w 40 = true then vo S p (v2n w) else -1) = (-1 : Int32) := by
              split
              · rename_i h40
                obtain ⟨u, hu, rfl⟩ := inR_true h40
                rw [inK_nI (by omega)] at c19 c41 c63
                rw [nI_toInt (by omega)] at hx
                rw [v2n_nI (by omega)]
                have c19 := of_decide_eq_false c19
                have c41 := of_decide_eq_false c41
                have c63 := of_decide_eq_false c63
                unfold vo
                rw [if_neg (by omega), if_neg (by omega), if_neg (by omega), if_neg (by omega), if_neg (by omega), if_neg (by omega), if_neg (by omega), if_neg (by omega)]
              · rfl
            rw [hm] at h2
            refine g_iload_n dX9_of_79 rfl ?_
            refine g_tswO 169 dX9_of_80 hx (by decide) ?_
            refine g_iconst ((-1)) dX9_of_169 ki_m1 ?_
            refine g_ireturn dX9_of_170 rfl (by first | rfl | exact nar_bI _) ?_
            exact h2
        · obtain ⟨k, hk, rfl⟩ := inK_true (by omega) c63
          rw [if_pos (by rw [inR_nI (by omega)]; exact decide_eq_true (by omega)), v2n_nI (by omega)] at h2
          unfold vo at h2
          rw [if_neg (by omega), if_neg (by omega), if_neg (by omega), if_neg (by omega), if_neg (by omega), if_neg (by omega), if_neg (by omega), if_pos (by omega), show 30 + k - 30 = k by omega] at h2
          refine g_aload_n dX9_of_66 rfl ?_
          refine g_getr (j := 0) dX9_of_67 gc9 rfl (by decide) rfl (by decide) fl_F_13 ?_
          refine g_iload_n dX9_of_70 rfl ?_
          refine g_iload_n dX9_of_71 rfl ?_
          refine g_bipush (nI 30) dX9_of_72 kb_30 ?_
          first | refine g_isub_n dX9_of_74 (by omega) ?_ | refine g_isub dX9_of_74 ?_
          refine g_call2 dX9_of_75 clB_loadOf ml_F_124 gc0 rfl rfl (by decide) (Nat.le_of_ble_eq_true rfl) ?_
          rw [show 30 + k - 30 = k by omega]
          refine SB_loadOf hB hp hk ?_
          refine g_ireturn dX9_of_78 rfl (by first | rfl | exact nar_bI _) ?_
          exact h2
      · obtain ⟨k, hk, rfl⟩ := inK_true (by omega) c41
        rw [if_pos (by rw [inR_nI (by omega)]; exact decide_eq_true (by omega)), v2n_nI (by omega)] at h2
        unfold vo at h2
        rw [if_neg (by omega), if_neg (by omega), if_neg (by omega), if_neg (by omega), if_neg (by omega), if_neg (by omega), if_pos (by omega), show 20 + k - 20 = k by omega] at h2
        refine g_aload_n dX9_of_44 rfl ?_
        refine g_getr (j := 0) dX9_of_45 gc9 rfl (by decide) rfl (by decide) fl_F_13 ?_
        refine g_iload_n dX9_of_48 rfl ?_
        refine g_iload_n dX9_of_49 rfl ?_
        refine g_bipush (nI 20) dX9_of_50 kb_20 ?_
        first | refine g_isub_n dX9_of_52 (by omega) ?_ | refine g_isub dX9_of_52 ?_
        refine g_call2 dX9_of_53 clB_headOf ml_F_121 gc0 rfl rfl (by decide) (Nat.le_of_ble_eq_true rfl) ?_
        rw [show 20 + k - 20 = k by omega]
        refine SB_headOf hB hp hk ?_
        refine g_ireturn dX9_of_56 rfl (by first | rfl | exact nar_bI _) ?_
        exact h2
    · obtain ⟨k, hk, rfl⟩ := inK_true (by omega) c19
      rw [if_pos (by rw [inR_nI (by omega)]; exact decide_eq_true (by omega)), v2n_nI (by omega)] at h2
      unfold vo at h2
      rw [if_neg (by omega), if_neg (by omega), if_neg (by omega), if_neg (by omega), if_neg (by omega), if_pos (by omega), show 10 + k - 10 = k by omega] at h2
      refine g_aload_n dX9_of_22 rfl ?_
      refine g_getr (j := 0) dX9_of_23 gc9 rfl (by decide) rfl (by decide) fl_F_13 ?_
      refine g_iload_n dX9_of_26 rfl ?_
      refine g_iload_n dX9_of_27 rfl ?_
      refine g_bipush (nI 10) dX9_of_28 kb_10 ?_
      first | refine g_isub_n dX9_of_30 (by omega) ?_ | refine g_isub dX9_of_30 ?_
      refine g_call2 dX9_of_31 clB_pastOf ml_F_109 gc0 rfl rfl (by decide) (Nat.le_of_ble_eq_true rfl) ?_
      rw [show 10 + k - 10 = k by omega]
      refine SB_pastOf hB hp hk ?_
      refine g_ireturn dX9_of_34 rfl (by first | rfl | exact nar_bI _) ?_
      exact h2
  · rw [if_neg (by rw [c8]; decide)] at h2
    refine g_iconst ((-1)) dX9_of_11 ki_m1 ?_
    refine g_ireturn dX9_of_12 rfl (by first | rfl | exact nar_bI _) ?_
    exact h2
theorem SM_of (x w : Int32) (M : Mm) (S : BS) (Q : Po) (hM : MK (M 58) S) (hC : MC M) (hH : HM S) (h : ∀ M', FrM M M' → MK (M' 58) (f_of x w S).2 → Q M' (some (.int (f_of x w S).1))) : Call 60 mM_of [.ref 57, .int x, .int w] M Q := by
  have hw := hM.wf.np
  have h2 := h M FrM.rf hM
  unfold f_of at h2
  dsimp only at h2
  clear h
  refine Call_of (m := mM_of) [some (.ref 57), some (.int x), some (.int w), none] rfl (fun G => Nat.le_of_ble_eq_true rfl) (fun G => rfl) ?_
  refine g_aload_n dX10_of_0 rfl ?_
  refine g_iload_n dX10_of_1 rfl ?_
  refine g_call1 dX10_of_2 clM_isOne ml_M_72 gc10 rfl rfl (by decide) (Nat.le_of_ble_eq_true rfl) ?_
  refine SM_isOne hM x ?_
  refine g_if_ne_b 10 dX10_of_5 (by decide) (fun c5 => ?_) (fun c5 => ?_)
  rotate_left
  · rw [if_neg (by rw [c5]; decide)] at h2
    refine g_iconst ((-1)) dX10_of_8 ki_m1 ?_
    refine g_ireturn dX10_of_9 rfl (by first | rfl | exact nar_bI _) ?_
    exact h2
  obtain ⟨p, hp, rfl⟩ := inR_true c5
  rw [if_pos c5, v2n_nI (show p < 2 ^ 31 by omega)] at h2
  by_cases h40 : inR w 40 = true
  · obtain ⟨u, hu, rfl⟩ := inR_true h40
    rw [if_pos h40, v2n_nI (show u < 2 ^ 31 by omega)] at h2
    have hm10 := Nat.mod_lt u (show 0 < 10 by omega)
    refine g_iload_n dX10_of_10 rfl ?_
    refine g_bipush (nI 10) dX10_of_11 kb_10 ?_
    refine g_irem_n dX10_of_13 (by omega) (by omega) (by omega) ?_
    refine g_ist4_3 dX10_of_14 (by decide) rfl ?_
    refine g_iload_n dX10_of_15 rfl ?_
    by_cases h5 : u < 5
    · obtain rfl | rfl | rfl | rfl | rfl : u = 0 ∨ u = 1 ∨ u = 2 ∨ u = 3 ∨ u = 4 := by omega
      · skip
        refine g_tswI (off := 36) 52 dX10_of_16 (by decide) (by decide) (by decide) (by decide) ?_
        refine g_aload_n dX10_of_52 rfl ?_
        refine g_getr (j := 0) dX10_of_53 gc10 rfl (by decide) rfl (by decide) fl_M_9 ?_
        refine g_bipush (nI 11) dX10_of_56 kb_11 ?_
        refine g_iload_n dX10_of_58 rfl ?_
        first | refine g_iadd_n dX10_of_59 ?_ | refine g_iadd dX10_of_59 ?_
        refine g_iald_n dX10_of_60 (by first | rfl | assumption) (by first | decide | assumption) (by omega) (by omega) ?_
        try simp (disch := omega) only [hM.rk, hM.hN, hM.nr]
        refine g_ireturn dX10_of_61 rfl (by first | rfl | exact nar_bI _) ?_
        exact h2
      · skip
        refine g_tswI (off := 46) 62 dX10_of_16 (by decide) (by decide) (by decide) (by decide) ?_
        refine g_aload_n dX10_of_62 rfl ?_
        refine g_getr (j := 0) dX10_of_63 gc10 rfl (by decide) rfl (by decide) fl_M_9 ?_
        refine g_iconst (nI 3) dX10_of_66 ki_3 ?_
        refine g_iload_n dX10_of_67 rfl ?_
        first | refine g_iadd_n dX10_of_68 ?_ | refine g_iadd dX10_of_68 ?_
        refine g_iald_n dX10_of_69 (by first | rfl | assumption) (by first | decide | assumption) (by omega) (by omega) ?_
        try simp (disch := omega) only [hM.rk, hM.hN, hM.nr]
        refine g_ireturn dX10_of_70 rfl (by first | rfl | exact nar_bI _) ?_
        exact h2
      · skip
        refine g_tswI (off := 55) 71 dX10_of_16 (by decide) (by decide) (by decide) (by decide) ?_
        refine g_aload_n dX10_of_71 rfl ?_
        refine g_iload_n dX10_of_72 rfl ?_
        refine g_call1 dX10_of_73 clM_burden ml_M_122 gc10 rfl rfl (by decide) (Nat.le_of_ble_eq_true rfl) ?_
        refine SM_burden hM hC hp ?_
        refine g_ireturn dX10_of_76 rfl (by first | rfl | exact nar_bI _) ?_
        exact h2
      · skip
        refine g_tswI (off := 61) 77 dX10_of_16 (by decide) (by decide) (by decide) (by decide) ?_
        refine g_aload_n dX10_of_77 rfl ?_
        refine g_iload_n dX10_of_78 rfl ?_
        refine g_call1 dX10_of_79 clM_heldBy ml_M_125 gc10 rfl rfl (by decide) (Nat.le_of_ble_eq_true rfl) ?_
        refine SM_heldBy hM (by omega) ?_
        refine g_ireturn dX10_of_82 rfl (by first | rfl | exact nar_bI _) ?_
        exact h2
      · skip
        refine g_tswI (off := 67) 83 dX10_of_16 (by decide) (by decide) (by decide) (by decide) ?_
        refine g_aload_n dX10_of_83 rfl ?_
        refine g_getr (j := 0) dX10_of_84 gc10 rfl (by decide) rfl (by decide) fl_M_9 ?_
        refine g_bipush (nI 51) dX10_of_87 kb_51 ?_
        refine g_iload_n dX10_of_89 rfl ?_
        first | refine g_iadd_n dX10_of_90 ?_ | refine g_iadd dX10_of_90 ?_
        refine g_iald_n dX10_of_91 (by first | rfl | assumption) (by first | decide | assumption) (by omega) (by omega) ?_
        try simp (disch := omega) only [hM.rk, hM.hN, hM.nr]
        refine g_ireturn dX10_of_92 rfl (by first | rfl | exact nar_bI _) ?_
        exact h2
    · skip
      refine g_tswO 93 dX10_of_16 (by rw [nI_toInt (by omega)]; omega) (by decide) ?_
      refine g_iload_n dX10_of_93 rfl ?_
      refine g_i2l dX10_of_94 ?_
      refine g_ldc2w (10) dX10_of_95 kl_M_128 ?_
      refine g_ldc2w (39) dX10_of_98 kl_M_130 ?_
      refine g_calls3 dX10_of_101 clM_in ml_M_68 (Nat.le_of_ble_eq_true rfl) ?_
      refine SM_in _ _ _ ?_
      rw [show inJ (nI u).toInt64 10 39 = decide (10 ≤ u ∧ u ≤ 39) from ?_]
      rotate_left
      · unfold inJ
        rw [Int32.toInt_toInt64, nI_toInt (by omega)]
        have e1 : (10 : Int64).toInt = 10 := by decide
        have e2 : (39 : Int64).toInt = 39 := by decide
        rw [e1, e2]
        congr 1
        exact propext ⟨fun q => by omega, fun q => by omega⟩
      unfold vo at h2
      rw [if_neg (by omega), if_neg (by omega), if_neg (by omega), if_neg (by omega), if_neg (by omega)] at h2
      refine g_if_eq_b 114 dX10_of_104 (by decide) (fun c104 => ?_) (fun c104 => ?_)
      · have c104 := of_decide_eq_false c104
        rw [if_neg (by omega), if_neg (by omega), if_neg (by omega)] at h2
        refine g_iconst ((-1)) dX10_of_114 ki_m1 ?_
        refine g_ireturn dX10_of_115 rfl (by first | rfl | exact nar_bI _) ?_
        exact h2
      · have c104 := of_decide_eq_true c104
        refine g_iload_n dX10_of_107 rfl ?_
        refine g_calls1 dX10_of_108 clM_isKind ml_M_117 (Nat.le_of_ble_eq_true rfl) ?_
        refine SM_isKind _ ?_
        rw [inR_nI (by omega)]
        refine g_if_ne_b 116 dX10_of_111 (by decide) (fun c111 => ?_) (fun c111 => ?_)
        · have c111 := of_decide_eq_true c111
          refine g_iload_n dX10_of_116 rfl ?_
          refine g_bipush (nI 20) dX10_of_117 kb_20 ?_
          refine g_icmp_ge_n 131 dX10_of_119 (by decide) (by omega) (by omega) (fun c119 => ?_) (fun c119 => ?_)
          · refine g_iload_n dX10_of_131 rfl ?_
            refine g_bipush (nI 30) dX10_of_132 kb_30 ?_
            refine g_icmp_ge_n 146 dX10_of_134 (by decide) (by omega) (by omega) (fun c134 => ?_) (fun c134 => ?_)
            · rw [if_neg (by omega), if_neg (by omega), if_pos (by omega), show u - 30 = u % 10 by omega] at h2
              refine g_aload_n dX10_of_146 rfl ?_
              refine g_iload_n dX10_of_147 rfl ?_
              refine g_iload_n dX10_of_148 rfl ?_
              refine g_call2 dX10_of_149 clM_loadOf ml_M_132 gc10 rfl rfl (by decide) (Nat.le_of_ble_eq_true rfl) ?_
              refine SM_loadOf hM hp (by omega) ?_
              refine g_ireturn dX10_of_152 rfl (by first | rfl | exact nar_bI _) ?_
              exact h2
            · rw [if_neg (by omega), if_pos (by omega), show u - 20 = u % 10 by omega] at h2
              refine g_aload_n dX10_of_137 rfl ?_
              refine g_iload_n dX10_of_138 rfl ?_
              refine g_iload_n dX10_of_139 rfl ?_
              refine g_call2 dX10_of_140 clM_head ml_M_89 gc10 rfl rfl (by decide) (Nat.le_of_ble_eq_true rfl) ?_
              refine SM_head hM hp (by omega) ?_
              refine g_goto 152 dX10_of_143 (by decide) ?_
              refine g_ireturn dX10_of_152 rfl (by first | rfl | exact nar_bI _) ?_
              exact h2
          · rw [if_pos (by omega), show u - 10 = u % 10 by omega] at h2
            refine g_aload_n dX10_of_122 rfl ?_
            refine g_iload_n dX10_of_123 rfl ?_
            refine g_iload_n dX10_of_124 rfl ?_
            refine g_call2 dX10_of_125 clM_past ml_M_82 gc10 rfl rfl (by decide) (Nat.le_of_ble_eq_true rfl) ?_
            refine SM_past hM hp (by omega) ?_
            refine g_goto 152 dX10_of_128 (by decide) ?_
            refine g_ireturn dX10_of_152 rfl (by first | rfl | exact nar_bI _) ?_
            exact h2
        · have c111 := of_decide_eq_false c111
          rw [if_neg (by omega), if_neg (by omega), if_neg (by omega)] at h2
          refine g_iconst ((-1)) dX10_of_114 ki_m1 ?_
          refine g_ireturn dX10_of_115 rfl (by first | rfl | exact nar_bI _) ?_
          exact h2
  · rw [if_neg h40] at h2
    have hx : w.toInt < 0 ∨ 40 ≤ w.toInt := by
      unfold inR at h40
      simp only [decide_eq_true_eq] at h40
      omega
    refine g_iload_n dX10_of_10 rfl ?_
    refine g_bipush (nI 10) dX10_of_11 kb_10 ?_
    refine g_irem dX10_of_13 (nI_ne0 (by omega) (by omega)) ?_
    refine g_ist4_3 dX10_of_14 (by decide) rfl ?_
    refine g_iload_n dX10_of_15 rfl ?_
    refine g_tswO 93 dX10_of_16 (by omega) (by decide) ?_
    refine g_iload_n dX10_of_93 rfl ?_
    refine g_i2l dX10_of_94 ?_
    refine g_ldc2w (10) dX10_of_95 kl_M_128 ?_
    refine g_ldc2w (39) dX10_of_98 kl_M_130 ?_
    refine g_calls3 dX10_of_101 clM_in ml_M_68 (Nat.le_of_ble_eq_true rfl) ?_
    refine SM_in _ _ _ ?_
    rw [show inJ w.toInt64 10 39 = false from ?_]
    rotate_left
    · unfold inJ
      rw [Int32.toInt_toInt64]
      have e1 : (10 : Int64).toInt = 10 := by decide
      have e2 : (39 : Int64).toInt = 39 := by decide
      rw [e1, e2]
      exact decide_eq_false (by omega)
    refine g_if_eq_ff 114 dX10_of_104 (by decide) ?_
    refine g_iconst ((-1)) dX10_of_114 ki_m1 ?_
    refine g_ireturn dX10_of_115 rfl (by first | rfl | exact nar_bI _) ?_
    exact h2
theorem both_of (x w : Int32) : Both mF_of mM_of [.int x, .int w] := both_book (f_of x w) (fun M S Q => SF_of x w M S Q) (fun M S Q => SM_of x w M S Q) (fun S hW hH => hH)
