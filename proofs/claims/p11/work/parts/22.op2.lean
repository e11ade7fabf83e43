/-! past, of, neutral, frees -/
theorem inJ_big {x : Int32} {c : Int64} {n : Nat} (h : c.toInt + 1 = n) : inJ x.toInt64 0 c = inR x n := inJ_L h
def f_past (x k v : Int32) (S : BS) : Int32 × BS := if inR x (S 0 0 0) = true ∧ inR k 4 = true then (if inR v 1000 = true then (nI (S 5 (v2n x) (v2n k)), up S 5 (v2n x) (v2n k) (v2n v)) else (-2, S)) else (-1, S)
theorem SF_past (x k v : Int32) (M : Mm) (S : BS) (Q : Po) (hB : BK M S) (hH : HM S) (h : ∀ M', FrC M M' → BK M' (f_past x k v S).2 → Q M' (some (.int (f_past x k v S).1))) : Call 60 mF_past [.ref 0, .int x, .int k, .int v] M Q := by
  have hw := hB.wf.np
  refine Call_of (m := mF_past) [some (.ref 0), some (.int x), some (.int k), some (.int v), none] rfl (fun G => Nat.le_of_ble_eq_true rfl) (fun G => rfl) ?_
  refine g_aload_n dX9_past_0 rfl ?_
  refine g_getr (j := 0) dX9_past_1 gc9 rfl (by decide) rfl (by decide) fl_F_13 ?_
  refine g_iload_n dX9_past_4 rfl ?_
  refine g_call1 dX9_past_5 clB_isOne ml_F_91 gc0 rfl rfl (by decide) (Nat.le_of_ble_eq_true rfl) ?_
  refine SB_isOne hB x ?_
  refine g_if_eq_b 18 dX9_past_8 (by decide) (fun c8 => ?_) (fun c8 => ?_)
  · rw [f_past, if_neg (by rw [c8]; simp)] at h
    refine g_iconst ((-1)) dX9_past_18 ki_m1 ?_
    refine g_ireturn dX9_past_19 rfl (by first | rfl | exact nar_bI _) ?_
    exact h M FrC.rf hB
  · refine g_iload_n dX9_past_11 rfl ?_
    refine g_calls1 dX9_past_12 clF_isKind ml_F_106 (Nat.le_of_ble_eq_true rfl) ?_
    refine SF_isKind k ?_
    refine g_if_ne_b 20 dX9_past_15 (by decide) (fun c15 => ?_) (fun c15 => ?_)
    · obtain ⟨p, hp, rfl⟩ := inR_true c8
      obtain ⟨j, hj, rfl⟩ := inR_true c15
      rw [f_past, if_pos ⟨c8, c15⟩, v2n_nI (show p < 2 ^ 31 by omega), v2n_nI (show j < 2 ^ 31 by omega)] at h
      refine g_iload_n dX9_past_20 rfl ?_
      refine g_if_lt 31 dX9_past_21 (by decide) (fun c21 => ?_) (fun c21 => ?_)
      · rw [if_neg (by rw [inR_f1 c21]; decide)] at h
        refine g_bipush ((-2)) dX9_past_31 kb_m2 ?_
        refine g_ireturn dX9_past_33 rfl (by first | rfl | exact nar_bI _) ?_
        exact h M FrC.rf hB
      · refine g_iload_n dX9_past_24 rfl ?_
        refine g_sipush (nI 999) dX9_past_25 ks_999 ?_
        refine g_icmp_le 34 dX9_past_28 (by decide) (fun c28 => ?_) (fun c28 => ?_)
        · have e : inR v 1000 = true := by
            rw [toInt_lenI (by omega)] at c28
            rw [lt0_toInt] at c21
            exact decide_eq_true (by omega)
          obtain ⟨u, hu, rfl⟩ := inR_true e
          rw [if_pos e, v2n_nI (show u < 2 ^ 31 by omega)] at h
          refine g_aload_n dX9_past_34 rfl ?_
          refine g_getr (j := 0) dX9_past_35 gc9 rfl (by decide) rfl (by decide) fl_F_13 ?_
          refine g_iload_n dX9_past_38 rfl ?_
          refine g_iload_n dX9_past_39 rfl ?_
          refine g_call2 dX9_past_40 clB_pastOf ml_F_109 gc0 rfl rfl (by decide) (Nat.le_of_ble_eq_true rfl) ?_
          refine SB_pastOf hB hp hj ?_
          refine g_ist5_4 dX9_past_43 (by decide) rfl ?_
          refine g_aload_n dX9_past_45 rfl ?_
          refine g_getr (j := 0) dX9_past_46 gc9 rfl (by decide) rfl (by decide) fl_F_13 ?_
          refine g_iload_n dX9_past_49 rfl ?_
          refine g_iload_n dX9_past_50 rfl ?_
          refine g_iload_n dX9_past_51 rfl ?_
          refine g_call3 dX9_past_52 clB_putPast ml_F_113 gc0 rfl rfl (by decide) (Nat.le_of_ble_eq_true rfl) ?_
          refine SB_putPast hB hp hj ?_
          refine g_iload dX9_past_55 rfl ?_
          refine g_ireturn dX9_past_57 rfl (by first | rfl | exact nar_bI _) ?_
          exact h _ (FrC.of (EqO.set (L := [5]) (by decide)) (by decide)) (BKpast1 hB hp hj (by omega))
        · rw [if_neg (by
            rw [toInt_lenI (by omega)] at c28
            intro q
            have := of_decide_eq_true q
            omega)] at h
          refine g_bipush ((-2)) dX9_past_31 kb_m2 ?_
          refine g_ireturn dX9_past_33 rfl (by first | rfl | exact nar_bI _) ?_
          exact h M FrC.rf hB
    · rw [f_past, if_neg (by rw [c15]; simp)] at h
      refine g_iconst ((-1)) dX9_past_18 ki_m1 ?_
      refine g_ireturn dX9_past_19 rfl (by first | rfl | exact nar_bI _) ?_
      exact h M FrC.rf hB
theorem MKpast1 {w : Nat → Int32} {S : BS} (hM : MK w S) {p k v : Nat} (hp : p < S 0 0 0) (hk : k < 4) (hv : v ≤ 999) : MK (upd w (19 + 4 * p + k) (nI v)) (up S 5 p k v) := by
  have hnp := hM.wf.np
  have hnd := hM.wf.nd
  have hnr := fun p (hp : p < S 0 0 0) => hM.wf.nr (p := p) (by omega)
  obtain ⟨w0, a1, a2, a3, a4, a5, a6, a7, a8, a9⟩ := hM
  have ky : ∀ j, j ≠ 19 + 4 * p + k → upd w (19 + 4 * p + k) (nI v) j = w j := fun j hj => upd_off hj
  refine ⟨?_, by rw [ky 0 (by omega)]; exact a1, by rw [ky 1 (by omega)]; exact a2, by rw [ky 2 (by omega)]; exact a3, fun q hq => ?_, fun q j hq hj => ?_, fun q j hq hj => ?_, fun e he => ?_, fun q e hq he => ?_, a9.keep (fun j hj => ky j (by omega))⟩
  · obtain ⟨b1, b2, b3, b4, b5, b6, b7, b8, b9, b10, b11⟩ := w0
    refine ⟨b1, b2, b3, b4, b5, fun q j hq hj => ?_, b7, b8, b9, b10, b11⟩
    by_cases e : q = p ∧ j = k
    · obtain ⟨rfl, rfl⟩ := e; rw [up_at]; exact hv
    · rw [up_off (by omega)]; exact b6 q j hq hj
  · have hq2 : q < S 0 0 0 := hq
    rw [ky (3 + q) (by omega), ky (11 + q) (by omega), ky (51 + q) (by omega)]; exact a4 q hq
  · have hq2 : q < S 0 0 0 := hq
    by_cases e : q = p ∧ j = k
    · obtain ⟨rfl, rfl⟩ := e; rw [upd_at, up_at]
    · rw [ky _ (by omega), up_off (by omega)]; exact a5 q j hq hj
  · have hq2 : q < S 0 0 0 := hq
    have := hnr q hq2
    rw [ky _ (by omega), ky _ (by omega), ky _ (by omega)]; exact a6 q j hq hj
  · have he2 : e < S 1 0 0 := he
    rw [ky _ (by omega), ky _ (by omega), ky _ (by omega)]; exact a7 e he
  · have he2 : e < S 1 0 0 := he
    rw [ky _ (by omega)]; exact a8 q e hq he
theorem SM_past_ (x k v : Int32) (M : Mm) (S : BS) (Q : Po) (hM : MK (M 58) S) (hC : MC M) (hH : HM S) (h : ∀ M', FrM M M' → MK (M' 58) (f_past x k v S).2 → Q M' (some (.int (f_past x k v S).1))) : Call 60 mM_past_ [.ref 57, .int x, .int k, .int v] M Q := by
  have hw := hM.wf.np
  refine Call_of (m := mM_past_) [some (.ref 57), some (.int x), some (.int k), some (.int v), none] rfl (fun G => Nat.le_of_ble_eq_true rfl) (fun G => rfl) ?_
  refine g_aload_n dX10_past__0 rfl ?_
  refine g_iload_n dX10_past__1 rfl ?_
  refine g_call1 dX10_past__2 clM_isOne ml_M_72 gc10 rfl rfl (by decide) (Nat.le_of_ble_eq_true rfl) ?_
  refine SM_isOne hM x ?_
  refine g_if_eq_b 15 dX10_past__5 (by decide) (fun c5 => ?_) (fun c5 => ?_)
  · rw [f_past, if_neg (by rw [c5]; simp)] at h
    refine g_iconst ((-1)) dX10_past__15 ki_m1 ?_
    refine g_ireturn dX10_past__16 rfl (by first | rfl | exact nar_bI _) ?_
    exact h M FrM.rf hM
  · refine g_iload_n dX10_past__8 rfl ?_
    refine g_calls1 dX10_past__9 clM_isKind ml_M_117 (Nat.le_of_ble_eq_true rfl) ?_
    refine SM_isKind k ?_
    refine g_if_ne_b 17 dX10_past__12 (by decide) (fun c12 => ?_) (fun c12 => ?_)
    · obtain ⟨p, hp, rfl⟩ := inR_true c5
      obtain ⟨j, hj, rfl⟩ := inR_true c12
      rw [f_past, if_pos ⟨c5, c12⟩, v2n_nI (show p < 2 ^ 31 by omega), v2n_nI (show j < 2 ^ 31 by omega)] at h
      refine g_iload_n dX10_past__17 rfl ?_
      refine g_i2l dX10_past__18 ?_
      refine g_lconst (0) dX10_past__19 (by decide) ?_
      refine g_ldc2w (999) dX10_past__20 kl_M_120 ?_
      refine g_calls3 dX10_past__23 clM_in ml_M_68 (Nat.le_of_ble_eq_true rfl) ?_
      refine SM_in _ _ _ ?_
      rw [inJ_L (n := 1000) (by decide)]
      refine g_if_ne_b 32 dX10_past__26 (by decide) (fun c26 => ?_) (fun c26 => ?_)
      · obtain ⟨u, hu, rfl⟩ := inR_true c26
        rw [if_pos c26, v2n_nI (show u < 2 ^ 31 by omega)] at h
        refine g_aload_n dX10_past__32 rfl ?_
        refine g_iload_n dX10_past__33 rfl ?_
        refine g_iload_n dX10_past__34 rfl ?_
        refine g_call2 dX10_past__35 clM_past ml_M_82 gc10 rfl rfl (by decide) (Nat.le_of_ble_eq_true rfl) ?_
        refine SM_past hM hp hj ?_
        refine g_ist5_4 dX10_past__38 (by decide) rfl ?_
        refine g_aload_n dX10_past__40 rfl ?_
        refine g_getr (j := 0) dX10_past__41 gc10 rfl (by decide) rfl (by decide) fl_M_9 ?_
        refine g_bipush (nI 19) dX10_past__44 kb_19 ?_
        refine g_iconst (nI 4) dX10_past__46 ki_4 ?_
        refine g_iload_n dX10_past__47 rfl ?_
        first | refine g_imul_n dX10_past__48 ?_ | refine g_imul dX10_past__48 ?_
        first | refine g_iadd_n dX10_past__49 ?_ | refine g_iadd dX10_past__49 ?_
        refine g_iload_n dX10_past__50 rfl ?_
        first | refine g_iadd_n dX10_past__51 ?_ | refine g_iadd dX10_past__51 ?_
        refine g_iload_n dX10_past__52 rfl ?_
        refine g_iast_n dX10_past__53 (by first | rfl | assumption) (by first | decide | assumption) (by omega) (by omega) ?_
        refine g_iload dX10_past__54 rfl ?_
        refine g_ireturn dX10_past__56 rfl (by first | rfl | exact nar_bI _) ?_
        refine h _ (FrM.of (EqO.set (L := [58]) (by decide)) (by decide)) ?_
        rw [mset_row]
        exact MKpast1 hM hp hj (by omega)
      · rw [if_neg (by rw [c26]; decide)] at h
        refine g_bipush ((-2)) dX10_past__29 kb_m2 ?_
        refine g_ireturn dX10_past__31 rfl (by first | rfl | exact nar_bI _) ?_
        exact h M FrM.rf hM
    · rw [f_past, if_neg (by rw [c12]; simp)] at h
      refine g_iconst ((-1)) dX10_past__15 ki_m1 ?_
      refine g_ireturn dX10_past__16 rfl (by first | rfl | exact nar_bI _) ?_
      exact h M FrM.rf hM
theorem both_past (x k v : Int32) : Both mF_past mM_past_ [.int x, .int k, .int v] := both_book (f_past x k v) (fun M S Q => SF_past x k v M S Q) (fun M S Q => SM_past_ x k v M S Q) (fun S hW hH => by
  unfold f_past
  split
  · split
    · intro d hd h8
      dsimp only at hd h8 ⊢
      rw [up_off (by omega)] at hd
      have e12 : up S 5 (v2n x) (v2n k) (v2n v) 12 d 0 = S 12 d 0 := up_off (by omega)
      rw [e12] at h8 ⊢
      rw [may_cong (up_off (by omega)) (up_off (by omega)) (fun r => up_off (by omega)) (fun r => up_off (by omega)) (fun r => up_off (by omega)) (up_off (by omega)) (up_off (by omega))]
      exact hH d hd h8
    · exact hH
  · exact hH)
def f_neutral (k : Int32) (S : BS) : Int32 × BS := if inR k 4 = true then (nI (neuN S (v2n k)), S) else (-1, S)
theorem SF_neutral (k : Int32) (M : Mm) (S : BS) (Q : Po) (hB : BK M S) (hH : HM S) (h : ∀ M', FrC M M' → BK M' (f_neutral k S).2 → Q M' (some (.int (f_neutral k S).1))) : Call 60 mF_neutral [.ref 0, .int k] M Q := by
  refine Call_of (m := mF_neutral) [some (.ref 0), some (.int k)] rfl (fun G => Nat.le_of_ble_eq_true rfl) (fun G => rfl) ?_
  refine g_iload_n dX9_neutral_0 rfl ?_
  refine g_calls1 dX9_neutral_1 clF_isKind ml_F_106 (Nat.le_of_ble_eq_true rfl) ?_
  refine SF_isKind k ?_
  refine g_if_eq_b 18 dX9_neutral_4 (by decide) (fun c4 => ?_) (fun c4 => ?_)
  · rw [f_neutral, if_neg (by rw [c4]; decide)] at h
    refine g_iconst ((-1)) dX9_neutral_18 ki_m1 ?_
    refine g_ireturn dX9_neutral_19 rfl (by first | rfl | exact nar_bI _) ?_
    exact h M FrC.rf hB
  · obtain ⟨j, hj, rfl⟩ := inR_true c4
    rw [f_neutral, if_pos c4, v2n_nI (show j < 2 ^ 31 by omega)] at h
    refine g_aload_n dX9_neutral_7 rfl ?_
    refine g_getr (j := 0) dX9_neutral_8 gc9 rfl (by decide) rfl (by decide) fl_F_13 ?_
    refine g_iload_n dX9_neutral_11 rfl ?_
    refine g_call1 dX9_neutral_12 clB_neutralPast ml_F_139 gc0 rfl rfl (by decide) (Nat.le_of_ble_eq_true rfl) ?_
    refine SB_neutralPast hB hj ?_
    refine g_goto 19 dX9_neutral_15 (by decide) ?_
    refine g_ireturn dX9_neutral_19 rfl (by first | rfl | exact nar_bI _) ?_
    exact h M FrC.rf hB
theorem SM_neutral (k : Int32) (M : Mm) (S : BS) (Q : Po) (hM : MK (M 58) S) (hC : MC M) (hH : HM S) (h : ∀ M', FrM M M' → MK (M' 58) (f_neutral k S).2 → Q M' (some (.int (f_neutral k S).1))) : Call 60 mM_neutral [.ref 57, .int k] M Q := by
  refine Call_of (m := mM_neutral) [some (.ref 57), some (.int k)] rfl (fun G => Nat.le_of_ble_eq_true rfl) (fun G => rfl) ?_
  refine g_iload_n dX10_neutral_0 rfl ?_
  refine g_calls1 dX10_neutral_1 clM_isKind ml_M_117 (Nat.le_of_ble_eq_true rfl) ?_
  refine SM_isKind k ?_
  refine g_if_eq_b 15 dX10_neutral_4 (by decide) (fun c4 => ?_) (fun c4 => ?_)
  · rw [f_neutral, if_neg (by rw [c4]; decide)] at h
    refine g_iconst ((-1)) dX10_neutral_15 ki_m1 ?_
    refine g_ireturn dX10_neutral_16 rfl (by first | rfl | exact nar_bI _) ?_
    exact h M FrM.rf hM
  · obtain ⟨j, hj, rfl⟩ := inR_true c4
    rw [f_neutral, if_pos c4, v2n_nI (show j < 2 ^ 31 by omega)] at h
    refine g_aload_n dX10_neutral_7 rfl ?_
    refine g_iload_n dX10_neutral_8 rfl ?_
    refine g_call1 dX10_neutral_9 clM_neutralOf ml_M_106 gc10 rfl rfl (by decide) (Nat.le_of_ble_eq_true rfl) ?_
    refine SM_neutralOf hM hj ?_
    refine g_goto 16 dX10_neutral_12 (by decide) ?_
    refine g_ireturn dX10_neutral_16 rfl (by first | rfl | exact nar_bI _) ?_
    exact h M FrM.rf hM
theorem both_neutral (k : Int32) : Both mF_neutral mM_neutral [.int k] := both_book (f_neutral k) (fun M S Q => SF_neutral k M S Q) (fun M S Q => SM_neutral k M S Q) (fun S hW hH => by unfold f_neutral; split <;> exact hH)
def f_frees (x : Int32) (S : BS) : Int32 × BS := if inR x (S 0 0 0) = true then (nI (S 6 (v2n x) 0), up S 6 (v2n x) 0 0) else (-1, S)
theorem BKfrees {M : Mm} {S : BS} (hB : BK M S) {p : Nat} (hp : p < S 0 0 0) : BK (mset M 6 p (nI 0)) (up S 6 p 0 0) := by
  obtain ⟨w, a1, a2, a3, a4, a5, a6, a7, a8, a9, a10, a11⟩ := hB
  refine ⟨?_, a1, a2, a3, a4, a5, a6, a7, fun q hq => ?_, fun q r hq hr => ?_, a10, a11⟩
  · obtain ⟨b1, b2, b3, b4, b5, b6, b7, b8, b9, b10, b11⟩ := w
    refine ⟨b1, b2, b3, b4, b5, b6, fun q hq => ?_, b8, b9, b10, b11⟩
    by_cases e : q = p
    · subst e; rw [up_at]; omega
    · rw [up_off (by omega)]; exact b7 q hq
  · by_cases e : q = p
    · subst e; rw [mset_at, up_at]
    · rw [mset_off (by omega), up_off (by omega)]; exact a8 q hq
  · by_cases e : q = p
    · subst e; rw [up_at] at hr; omega
    · rw [up_off (by omega)] at hr; exact a9 q r hq hr
theorem MKfrees {w : Nat → Int32} {S : BS} (hM : MK w S) {p : Nat} (hp : p < S 0 0 0) : MK (upd w (51 + p) (nI 0)) (up S 6 p 0 0) := by
  have hnp := hM.wf.np
  have hnd := hM.wf.nd
  have hnr := fun p (hp : p < S 0 0 0) => hM.wf.nr (p := p) (by omega)
  obtain ⟨w0, a1, a2, a3, a4, a5, a6, a7, a8, a9⟩ := hM
  have ky : ∀ j, j ≠ 51 + p → upd w (51 + p) (nI 0) j = w j := fun j hj => upd_off hj
  refine ⟨?_, by rw [ky 0 (by omega)]; exact a1, by rw [ky 1 (by omega)]; exact a2, by rw [ky 2 (by omega)]; exact a3, fun q hq => ?_, fun q j hq hj => ?_, fun q j hq hj => ?_, fun e he => ?_, fun q e hq he => ?_, a9.keep (fun j hj => ky j (by omega))⟩
  · obtain ⟨b1, b2, b3, b4, b5, b6, b7, b8, b9, b10, b11⟩ := w0
    refine ⟨b1, b2, b3, b4, b5, b6, fun q hq => ?_, b8, b9, b10, b11⟩
    by_cases e : q = p
    · subst e; rw [up_at]; omega
    · rw [up_off (by omega)]; exact b7 q hq
  · have hq2 : q < S 0 0 0 := hq
    rw [ky (3 + q) (by omega), ky (11 + q) (by omega)]
    refine ⟨(a4 q hq).1, (a4 q hq).2.1, ?_⟩
    by_cases e : q = p
    · subst e; rw [upd_at, up_at]
    · rw [ky _ (by omega), up_off (by omega)]; exact (a4 q hq).2.2
  · have hq2 : q < S 0 0 0 := hq
    rw [ky _ (by omega)]; exact a5 q j hq hj
  · have hq2 : q < S 0 0 0 := hq
    by_cases e : q = p
    · subst e; rw [up_at] at hj; omega
    · rw [up_off (by omega)] at hj
      have := hnr q hq2
      rw [ky _ (by omega), ky _ (by omega), ky _ (by omega)]; exact a6 q j hq hj
  · have he2 : e < S 1 0 0 := he
    rw [ky _ (by omega), ky _ (by omega), ky _ (by omega)]; exact a7 e he
  · have he2 : e < S 1 0 0 := he
    rw [ky _ (by omega)]; exact a8 q e hq he
theorem SF_frees (x : Int32) (M : Mm) (S : BS) (Q : Po) (hB : BK M S) (hH : HM S) (h : ∀ M', FrC M M' → BK M' (f_frees x S).2 → Q M' (some (.int (f_frees x S).1))) : Call 60 mF_frees [.ref 0, .int x] M Q := by
  have hw := hB.wf.np
  refine Call_of (m := mF_frees) [some (.ref 0), some (.int x)] rfl (fun G => Nat.le_of_ble_eq_true rfl) (fun G => rfl) ?_
  refine g_aload_n dX9_frees_0 rfl ?_
  refine g_getr (j := 0) dX9_frees_1 gc9 rfl (by decide) rfl (by decide) fl_F_13 ?_
  refine g_iload_n dX9_frees_4 rfl ?_
  refine g_call1 dX9_frees_5 clB_isOne ml_F_91 gc0 rfl rfl (by decide) (Nat.le_of_ble_eq_true rfl) ?_
  refine SB_isOne hB x ?_
  refine g_if_eq_b 22 dX9_frees_8 (by decide) (fun c8 => ?_) (fun c8 => ?_)
  · rw [f_frees, if_neg (by rw [c8]; decide)] at h
    refine g_iconst ((-1)) dX9_frees_22 ki_m1 ?_
    refine g_ireturn dX9_frees_23 rfl (by first | rfl | exact nar_bI _) ?_
    exact h M FrC.rf hB
  · obtain ⟨p, hp, rfl⟩ := inR_true c8
    rw [f_frees, if_pos c8, v2n_nI (show p < 2 ^ 31 by omega)] at h
    refine g_aload_n dX9_frees_11 rfl ?_
    refine g_getr (j := 0) dX9_frees_12 gc9 rfl (by decide) rfl (by decide) fl_F_13 ?_
    refine g_iload_n dX9_frees_15 rfl ?_
    refine g_call1 dX9_frees_16 clB_dropRules ml_F_161 gc0 rfl rfl (by decide) (Nat.le_of_ble_eq_true rfl) ?_
    refine SB_dropRules hB hp ?_
    refine g_goto 23 dX9_frees_19 (by decide) ?_
    refine g_ireturn dX9_frees_23 rfl (by first | rfl | exact nar_bI _) ?_
    exact h _ (FrC.of (EqO.set (L := [6]) (by decide)) (by decide)) (BKfrees hB hp)
theorem SM_frees (x : Int32) (M : Mm) (S : BS) (Q : Po) (hM : MK (M 58) S) (hC : MC M) (hH : HM S) (h : ∀ M', FrM M M' → MK (M' 58) (f_frees x S).2 → Q M' (some (.int (f_frees x S).1))) : Call 60 mM_frees [.ref 57, .int x] M Q := by
  have hw := hM.wf.np
  refine Call_of (m := mM_frees) [some (.ref 57), some (.int x), none] rfl (fun G => Nat.le_of_ble_eq_true rfl) (fun G => rfl) ?_
  refine g_aload_n dX10_frees_0 rfl ?_
  refine g_iload_n dX10_frees_1 rfl ?_
  refine g_call1 dX10_frees_2 clM_isOne ml_M_72 gc10 rfl rfl (by decide) (Nat.le_of_ble_eq_true rfl) ?_
  refine SM_isOne hM x ?_
  refine g_if_ne_b 10 dX10_frees_5 (by decide) (fun c5 => ?_) (fun c5 => ?_)
  · obtain ⟨p, hp, rfl⟩ := inR_true c5
    rw [f_frees, if_pos c5, v2n_nI (show p < 2 ^ 31 by omega)] at h
    refine g_aload_n dX10_frees_10 rfl ?_
    refine g_getr (j := 0) dX10_frees_11 gc10 rfl (by decide) rfl (by decide) fl_M_9 ?_
    refine g_bipush (nI 51) dX10_frees_14 kb_51 ?_
    refine g_iload_n dX10_frees_16 rfl ?_
    first | refine g_iadd_n dX10_frees_17 ?_ | refine g_iadd dX10_frees_17 ?_
    refine g_iald_n dX10_frees_18 (by first | rfl | assumption) (by first | decide | assumption) (by omega) (by omega) ?_
    try simp (disch := omega) only [hM.nr]
    refine g_ist3_2 dX10_frees_19 (by decide) rfl ?_
    refine g_aload_n dX10_frees_20 rfl ?_
    refine g_getr (j := 0) dX10_frees_21 gc10 rfl (by decide) rfl (by decide) fl_M_9 ?_
    refine g_bipush (nI 51) dX10_frees_24 kb_51 ?_
    refine g_iload_n dX10_frees_26 rfl ?_
    first | refine g_iadd_n dX10_frees_27 ?_ | refine g_iadd dX10_frees_27 ?_
    refine g_iconst (nI 0) dX10_frees_28 ki_0 ?_
    refine g_iast_n dX10_frees_29 (by first | rfl | assumption) (by first | decide | assumption) (by omega) (by omega) ?_
    refine g_iload_n dX10_frees_30 rfl ?_
    refine g_ireturn dX10_frees_31 rfl (by first | rfl | exact nar_bI _) ?_
    refine h _ (FrM.of (EqO.set (L := [58]) (by decide)) (by decide)) ?_
    rw [mset_row]
    exact MKfrees hM hp
  · rw [f_frees, if_neg (by rw [c5]; decide)] at h
    refine g_iconst ((-1)) dX10_frees_8 ki_m1 ?_
    refine g_ireturn dX10_frees_9 rfl (by first | rfl | exact nar_bI _) ?_
    exact h M FrM.rf hM
theorem both_frees (x : Int32) : Both mF_frees mM_frees [.int x] := both_book (f_frees x) (fun M S Q => SF_frees x M S Q) (fun M S Q => SM_frees x M S Q) (fun S hW hH => by
  unfold f_frees
  split
  · intro d hd h8
    dsimp only at hd h8 ⊢
    rw [up_off (by omega)] at hd
    have e12 : up S 6 (v2n x) 0 0 12 d 0 = S 12 d 0 := up_off (by omega)
    rw [e12] at h8 ⊢
    have hm := hH d hd h8
    by_cases z : S 12 d 0 = v2n x
    · unfold mayB
      rw [z, up_at, Bool.and_eq_true]
      refine ⟨hr_of.mpr ?_, decide_eq_true (fun r hr => absurd hr (Nat.not_lt_zero r))⟩
      rw [up_off (by omega)]
      rw [z] at hm
      exact mayB_here hm
    · rw [may_cong (up_off (by omega)) (up_off (by omega)) (fun r => up_off (by omega)) (fun r => up_off (by omega)) (fun r => up_off (by omega)) (up_off (by omega)) (up_off (by omega))]
      exact hm
  · exact hH)
