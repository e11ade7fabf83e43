/-! spell: the bytes of a roster -/
def spN (v : Nat) : List Nat := (if 100 ≤ v then [48 + v / 100] else []) ++ ((if 10 ≤ v then [48 + v / 10 % 10] else []) ++ [48 + v % 10])
def spH (q : Nat) : Nat := if q = 8 then 45 else 48 + q
def spD (S : BS) (e : Nat) : List Nat := spN (S 10 e 0) ++ [lw (S 11 e 0), 61, spH (S 12 e 0)]
def spL (S : BS) : Nat → List Nat
  | 0 => []
  | n + 1 => (spL S n ++ (if n = 0 then [] else [59])) ++ spD S (sd S n)
theorem spN_le (v : Nat) : (spN v).length ≤ 3 := by
  unfold spN
  split <;> split <;> simp
theorem spD_le (S : BS) (e : Nat) : (spD S e).length ≤ 6 := by
  have := spN_le (S 10 e 0)
  unfold spD
  simp
  omega
theorem spL_le (S : BS) : ∀ n, (spL S n).length ≤ 7 * n
  | 0 => Nat.le_refl _
  | n + 1 => by
    have h1 := spL_le S n
    have h2 := spD_le S (sd S n)
    rw [spL, List.length_append, List.length_append]
    split <;> simp <;> omega
/-- the sheet and the reference's paper hold a row of bytes -/
def PA (n : Int32) (f : Nat → Int32) (l : List Nat) : Prop := n = nI l.length ∧ ∀ i, i < l.length → f i = nI (l.getD i 0)
theorem PA.nil {f : Nat → Int32} : PA (nI 0) f [] := ⟨rfl, fun i hi => absurd hi (by simp)⟩
theorem PA.app {n : Int32} {f : Nat → Int32} {l : List Nat} (h : PA n f l) (v : Nat) : PA (nI (l.length + 1)) (upd f l.length (nI v)) (l ++ [v]) := by
  refine ⟨by simp, fun i hi => ?_⟩
  by_cases e : i = l.length
  · subst e; rw [upd_at, getD_last]
  · have : i < l.length := by simp at hi; omega
    rw [upd_off e, getD_app this]; exact h.2 i this
abbrev PAc (M : Mm) (l : List Nat) : Prop := PA (M 52 1) (M 53) l
abbrev PAm (M : Mm) (l : List Nat) : Prop := PA (M 57 31) (M 74) l
theorem lw_of {k : Nat} (h : k < 4) : ([104, 101, 110, 112] : List Int32).getD k 0 = nI (lw k) := by
  obtain rfl | rfl | rfl | rfl : k = 0 ∨ k = 1 ∨ k = 2 ∨ k = 3 := by omega
  · rfl
  · rfl
  · rfl
  · rfl
theorem lw_le {k : Nat} (h : k < 4) : lw k ≤ 112 := by
  obtain rfl | rfl | rfl | rfl : k = 0 ∨ k = 1 ∨ k = 2 ∨ k = 3 := by omega
  · decide
  · decide
  · decide
  · decide
theorem SP_write {d : Nat} {M : Mm} {Q : Po} {l : List Nat} {v : Nat} (hP : PAc M l) (hl : l.length < 168) (h : ∀ M', EqO [52, 53] M M' → PAc M' (l ++ [v]) → Q M' none) : Call (d + 1) mP_write [.ref 52, .int (nI v)] M Q := by
  have e1 := hP.1
  refine Call_of (m := mP_write) [some (.ref 52), some (.int (nI v))] rfl (fun G => Nat.le_of_ble_eq_true rfl) (fun G => rfl) ?_
  refine g_aload_n dX3_write_0 rfl ?_
  refine g_geti (j := 1) dX3_write_1 gc3 rfl (by decide) rfl (by decide) fl_P_15 ?_
  try simp (disch := omega) only [e1, mset_off]
  refine g_if_lt_n 17 dX3_write_4 (by decide) (by omega) ?_
  refine g_aload_n dX3_write_7 rfl ?_
  refine g_geti (j := 1) dX3_write_8 gc3 rfl (by decide) rfl (by decide) fl_P_15 ?_
  try simp (disch := omega) only [e1, mset_off]
  refine g_sipush (nI 168) dX3_write_11 ks_168 ?_
  refine g_icmp_lt_n 18 dX3_write_14 (by decide) (by omega) (by omega) (fun c14 => ?_) (fun c14 => ?_)
  · refine g_aload_n dX3_write_18 rfl ?_
    refine g_getr (j := 0) dX3_write_19 gc3 rfl (by decide) rfl (by decide) fl_P_9 ?_
    refine g_aload_n dX3_write_22 rfl ?_
    refine g_geti (j := 1) dX3_write_23 gc3 rfl (by decide) rfl (by decide) fl_P_15 ?_
    try simp (disch := omega) only [e1, mset_off]
    refine g_iload_n dX3_write_26 rfl ?_
    refine g_iast_n dX3_write_27 (by first | rfl | assumption) (by first | decide | assumption) (by omega) (by omega) ?_
    refine g_aload_n dX3_write_28 rfl ?_
    refine g_dup dX3_write_29 rfl ?_
    refine g_geti (j := 1) dX3_write_30 gc3 rfl (by decide) rfl (by decide) fl_P_15 ?_
    try simp (disch := omega) only [e1, mset_off]
    refine g_iconst (nI 1) dX3_write_33 ki_1 ?_
    first | refine g_iadd_n dX3_write_34 ?_ | refine g_iadd dX3_write_34 ?_
    refine g_puti (j := 1) dX3_write_35 gc3 rfl (by decide) rfl (by decide) fl_P_15 rfl (tyX3_ok 1 (by decide)) (by first | rfl | exact nar_bI _) rfl ?_
    refine g_return dX3_write_38 rfl ?_
    refine h _ ((EqO.set (by decide)).tr (EqO.set (by decide))) ?_
    unfold PAc
    rw [mset_at, mset_ne (a := 53) (by decide), mset_same]
    exact hP.app v
  · exact absurd hl (by omega)
theorem SP_number {d : Nat} {M : Mm} {Q : Po} {l : List Nat} {v : Nat} (hP : PAc M l) (hl : l.length < 166) (hv : v < 1000) (h : ∀ M', EqO [52, 53] M M' → PAc M' (l ++ spN v) → Q M' none) : Call (d + 2) mP_writeNumber [.ref 52, .int (nI v)] M Q := by
  have hC : ∀ (M' : Mm) (l2 : List Nat), EqO [52, 53] M M' → PAc M' l2 → l2.length < 168 → l ++ spN v = l2 ++ [48 + v % 10] → Go mP_writeNumber (d + 2) Q 37 [some (.ref 52), some (.int (nI v))] [] M' := by
    intro M' l2 hE hP2 hl2 e
    refine g_aload_n dX3_writeNumber_37 rfl ?_
    refine g_bipush (nI 48) dX3_writeNumber_38 kb_48 ?_
    refine g_iload_n dX3_writeNumber_40 rfl ?_
    refine g_bipush (nI 10) dX3_writeNumber_41 kb_10 ?_
    refine g_irem_n dX3_writeNumber_43 (by omega) (by omega) (by omega) ?_
    first | refine g_iadd_n dX3_writeNumber_44 ?_ | refine g_iadd dX3_writeNumber_44 ?_
    refine g_call1 dX3_writeNumber_45 clP_write ml_P_24 gc3 rfl rfl (by decide) (Nat.le_of_ble_eq_true rfl) ?_
    refine SP_write hP2 hl2 (fun M2 hE2 hP3 => ?_)
    refine g_return dX3_writeNumber_48 rfl ?_
    rw [e] at h
    exact h M2 (hE.tr hE2) hP3
  have hB : ∀ (M' : Mm) (l2 : List Nat), EqO [52, 53] M M' → PAc M' l2 → l2.length < 167 → l ++ spN v = l2 ++ ((if 10 ≤ v then [48 + v / 10 % 10] else []) ++ [48 + v % 10]) → Go mP_writeNumber (d + 2) Q 17 [some (.ref 52), some (.int (nI v))] [] M' := by
    intro M' l2 hE hP2 hl2 e
    refine g_iload_n dX3_writeNumber_17 rfl ?_
    refine g_bipush (nI 10) dX3_writeNumber_18 kb_10 ?_
    refine g_icmp_lt_n 37 dX3_writeNumber_20 (by decide) (by omega) (by omega) (fun c20 => ?_) (fun c20 => ?_)
    · rw [if_neg (by omega)] at e
      exact hC M' l2 hE hP2 (by omega) (by simpa using e)
    · rw [if_pos (by omega), ← List.append_assoc] at e
      refine g_aload_n dX3_writeNumber_23 rfl ?_
      refine g_bipush (nI 48) dX3_writeNumber_24 kb_48 ?_
      refine g_iload_n dX3_writeNumber_26 rfl ?_
      refine g_bipush (nI 10) dX3_writeNumber_27 kb_10 ?_
      refine g_idiv_n dX3_writeNumber_29 (by omega) (by omega) (by omega) ?_
      refine g_bipush (nI 10) dX3_writeNumber_30 kb_10 ?_
      refine g_irem_n dX3_writeNumber_32 (by omega) (by omega) (by omega) ?_
      first | refine g_iadd_n dX3_writeNumber_33 ?_ | refine g_iadd dX3_writeNumber_33 ?_
      refine g_call1 dX3_writeNumber_34 clP_write ml_P_24 gc3 rfl rfl (by decide) (Nat.le_of_ble_eq_true rfl) ?_
      refine SP_write hP2 (by omega) (fun M2 hE2 hP3 => ?_)
      exact hC M2 _ (hE.tr hE2) hP3 (by simp; omega) e
  refine Call_of (m := mP_writeNumber) [some (.ref 52), some (.int (nI v))] rfl (fun G => Nat.le_of_ble_eq_true rfl) (fun G => rfl) ?_
  refine g_iload_n dX3_writeNumber_0 rfl ?_
  refine g_bipush (nI 100) dX3_writeNumber_1 kb_100 ?_
  refine g_icmp_lt_n 17 dX3_writeNumber_3 (by decide) (by omega) (by omega) (fun c3 => ?_) (fun c3 => ?_)
  · exact hB M l EqO.rf hP (by omega) (by unfold spN; rw [if_neg (by omega)]; simp)
  · refine g_aload_n dX3_writeNumber_6 rfl ?_
    refine g_bipush (nI 48) dX3_writeNumber_7 kb_48 ?_
    refine g_iload_n dX3_writeNumber_9 rfl ?_
    refine g_bipush (nI 100) dX3_writeNumber_10 kb_100 ?_
    refine g_idiv_n dX3_writeNumber_12 (by omega) (by omega) (by omega) ?_
    first | refine g_iadd_n dX3_writeNumber_13 ?_ | refine g_iadd dX3_writeNumber_13 ?_
    refine g_call1 dX3_writeNumber_14 clP_write ml_P_24 gc3 rfl rfl (by decide) (Nat.le_of_ble_eq_true rfl) ?_
    refine SP_write hP (by omega) (fun M2 hE2 hP3 => ?_)
    exact hB M2 _ hE2 hP3 (by simp; omega) (by unfold spN; rw [if_pos (by omega)]; simp)
theorem SP_spellDuty {d : Nat} {M : Mm} {S : BS} {Q : Po} {l : List Nat} {e : Nat} (hB : BK M S) (hP : PAc M l) (hl : l.length ≤ 162) (he : e < S 1 0 0) (h : ∀ M', EqO [52, 53] M M' → PAc M' (l ++ spD S e) → Q M' none) : Call (d + 3) mP_spellDuty [.ref 52, .ref 1, .int (nI e)] M Q := by
  have hw := hB.wf.nd
  have hdk := hB.wf.dk (d := e) (by omega)
  have hn3 := spN_le (S 10 e 0)
  refine Call_of (m := mP_spellDuty) [some (.ref 52), some (.ref 1), some (.int (nI e)), none, none] rfl (fun G => Nat.le_of_ble_eq_true rfl) (fun G => rfl) ?_
  refine g_aload_n dX3_spellDuty_0 rfl ?_
  refine g_iload_n dX3_spellDuty_1 rfl ?_
  refine g_call1 dX3_spellDuty_2 clB_kindOf ml_P_36 gc0 rfl rfl (by decide) (Nat.le_of_ble_eq_true rfl) ?_
  refine SB_kindOf hB he ?_
  refine g_ist5_3 dX3_spellDuty_5 (by decide) rfl ?_
  refine g_aload_n dX3_spellDuty_6 rfl ?_
  refine g_iload_n dX3_spellDuty_7 rfl ?_
  refine g_call1 dX3_spellDuty_8 clB_holderOf ml_P_39 gc0 rfl rfl (by decide) (Nat.le_of_ble_eq_true rfl) ?_
  refine SB_holderOf hB he ?_
  refine g_ist5_4 dX3_spellDuty_11 (by decide) rfl ?_
  refine g_aload_n dX3_spellDuty_13 rfl ?_
  refine g_aload_n dX3_spellDuty_14 rfl ?_
  refine g_iload_n dX3_spellDuty_15 rfl ?_
  refine g_call1 dX3_spellDuty_16 clB_dayOf ml_P_42 gc0 rfl rfl (by decide) (Nat.le_of_ble_eq_true rfl) ?_
  refine SB_dayOf hB he ?_
  refine g_call1 dX3_spellDuty_19 clP_writeNumber ml_P_45 gc3 rfl rfl (by decide) (Nat.le_of_ble_eq_true rfl) ?_
  refine SP_number hP (by omega) (by omega) (fun M1 hE1 hP1 => ?_)
  refine g_iload_n dX3_spellDuty_22 rfl ?_
  refine g_calln1 (host := "FairTurns") dX3_spellDuty_23 clF_isKind (by decide) (Nat.le_of_ble_eq_true rfl) ?_
  refine SF_isKindT (by omega) ?_
  refine g_if_eq_tt 38 dX3_spellDuty_26 (by decide) ?_
  refine g_aload_n dX3_spellDuty_29 rfl ?_
  refine g_letters dX3_spellDuty_30 (by decide) ?_
  refine g_iload_n dX3_spellDuty_33 rfl ?_
  refine g_letAt _ dX3_spellDuty_34 (by omega) (lw_of (by omega)) ?_
  refine g_call1 dX3_spellDuty_35 clP_write ml_P_24 gc3 rfl rfl (by decide) (Nat.le_of_ble_eq_true rfl) ?_
  refine SP_write hP1 (by simp; omega) (fun M2 hE2 hP2 => ?_)
  refine g_aload_n dX3_spellDuty_38 rfl ?_
  refine g_bipush (nI 61) dX3_spellDuty_39 kb_61 ?_
  refine g_call1 dX3_spellDuty_41 clP_write ml_P_24 gc3 rfl rfl (by decide) (Nat.le_of_ble_eq_true rfl) ?_
  refine SP_write hP2 (by simp; omega) (fun M3 hE3 hP3 => ?_)
  have hend : ∀ M4, EqO [52, 53] M3 M4 → PAc M4 ((((l ++ spN (S 10 e 0)) ++ [lw (S 11 e 0)]) ++ [61]) ++ [spH (S 12 e 0)]) → Q M4 none := fun M4 hE4 hP4 => by
    refine h M4 (hE1.tr (hE2.tr (hE3.tr hE4))) ?_
    unfold spD
    simpa using hP4
  refine g_aload_n dX3_spellDuty_44 rfl ?_
  refine g_iload dX3_spellDuty_45 rfl ?_
  refine g_iconst ((-1)) dX3_spellDuty_47 ki_m1 ?_
  refine g_icmp_ne 56 dX3_spellDuty_48 (by decide) (fun c48 => ?_) (fun c48 => ?_)
  · have c48 : ¬ S 12 e 0 = 8 := fun z => c48 ((hv_open _ hdk.2.2).mpr z)
    rw [hv_p (p := S 12 e 0) (by omega)]
    refine g_bipush (nI 48) dX3_spellDuty_56 kb_48 ?_
    refine g_iload dX3_spellDuty_58 rfl ?_
    first | refine g_iadd_n dX3_spellDuty_60 ?_ | refine g_iadd dX3_spellDuty_60 ?_
    refine g_call1 dX3_spellDuty_61 clP_write ml_P_24 gc3 rfl rfl (by decide) (Nat.le_of_ble_eq_true rfl) ?_
    refine SP_write hP3 (by simp; omega) (fun M4 hE4 hP4 => ?_)
    refine g_return dX3_spellDuty_64 rfl ?_
    refine hend M4 hE4 ?_
    unfold spH
    rw [if_neg c48]
    exact hP4
  · rw [hv_open _ hdk.2.2] at c48
    refine g_bipush (nI 45) dX3_spellDuty_51 kb_45 ?_
    refine g_goto 61 dX3_spellDuty_53 (by decide) ?_
    refine g_call1 dX3_spellDuty_61 clP_write ml_P_24 gc3 rfl rfl (by decide) (Nat.le_of_ble_eq_true rfl) ?_
    refine SP_write hP3 (by simp; omega) (fun M4 hE4 hP4 => ?_)
    refine g_return dX3_spellDuty_64 rfl ?_
    refine hend M4 hE4 ?_
    unfold spH
    rw [if_pos c48]
    exact hP4
theorem SF_spell (M : Mm) (S : BS) (Q : Po) (hB : BK M S) (h : ∀ M', EqO [52, 53] M M' → PAc M' (spL S (S 1 0 0)) → Q M' (some (.int (nI (spL S (S 1 0 0)).length)))) : Call 60 mF_spell [.ref 0] M Q := by
  have hw := hB.wf.nd
  refine Call_of (m := mF_spell) [some (.ref 0)] rfl (fun G => Nat.le_of_ble_eq_true rfl) (fun G => rfl) ?_
  refine g_aload_n dX9_spell_0 rfl ?_
  refine g_getr (j := 9) dX9_spell_1 gc9 rfl (by decide) rfl (by decide) fl_F_72 ?_
  refine g_aload_n dX9_spell_4 rfl ?_
  refine g_getr (j := 0) dX9_spell_5 gc9 rfl (by decide) rfl (by decide) fl_F_13 ?_
  refine g_call1 dX9_spell_8 clP_spellRoster ml_F_292 gc3 rfl rfl (by decide) (Nat.le_of_ble_eq_true rfl) ?_
  have hsp : ∀ Q : Po, (∀ M', EqO [52, 53] M M' → PAc M' (spL S (S 1 0 0)) → Q M' (some (.int (nI (spL S (S 1 0 0)).length)))) → Call 59 mP_spellRoster [.ref 52, .ref 1] M Q := by
    intro Q h
    refine Call_of (m := mP_spellRoster) [some (.ref 52), some (.ref 1), none] rfl (fun G => Nat.le_of_ble_eq_true rfl) (fun G => rfl) ?_
    refine g_aload_n dX3_spellRoster_0 rfl ?_
    refine g_iconst (nI 0) dX3_spellRoster_1 ki_0 ?_
    refine g_puti (j := 1) dX3_spellRoster_2 gc3 rfl (by decide) rfl (by decide) fl_P_15 rfl (tyX3_ok 1 (by decide)) (by first | rfl | exact nar_bI _) rfl ?_
    refine g_iconst (nI 0) dX3_spellRoster_5 ki_0 ?_
    refine g_ist3_2 dX3_spellRoster_6 (by decide) rfl ?_
    refine loop_up (P := fun i => ∀ M', EqO [52, 53] M M' → PAc M' (spL S i) → Go mP_spellRoster 59 Q 7 [some (.ref 52), some (.ref 1), some (.int (nI i))] [] M') (S 1 0 0) ?_ 0 (Nat.zero_le _) _ (EqO.set (by decide)) (by unfold PAc; rw [mset_at]; exact PA.nil)
    intro i hi ih M' hE hP
    have hB' := hB.eqO hE (by decide)
    have e1 := hP.1
    have hle := spL_le S i
    refine g_iload_n dX3_spellRoster_7 rfl ?_
    refine g_aload_n dX3_spellRoster_8 rfl ?_
    refine g_geti (j := 1) dX3_spellRoster_9 gc0 rfl (by decide) rfl (by decide) fl_P_19 ?_
    try simp (disch := omega) only [hB'.nd, e1]
    refine g_icmp_ge_n 41 dX3_spellRoster_12 (by decide) (by omega) (by omega) (fun c12 => ?_) (fun c12 => ?_)
    · refine g_aload_n dX3_spellRoster_41 rfl ?_
      refine g_geti (j := 1) dX3_spellRoster_42 gc3 rfl (by decide) rfl (by decide) fl_P_15 ?_
      try simp (disch := omega) only [hB'.nd, e1]
      refine g_ireturn dX3_spellRoster_45 rfl (by first | rfl | exact nar_bI _) ?_
      rw [show i = S 1 0 0 by omega]
      rw [show i = S 1 0 0 by omega] at hP
      exact h M' hE hP
    · have hC : ∀ (M2 : Mm), EqO [52, 53] M M2 → PAc M2 (spL S i ++ (if i = 0 then [] else [59])) → Go mP_spellRoster 59 Q 25 [some (.ref 52), some (.ref 1), some (.int (nI i))] [] M2 := by
        intro M2 hE2 hP2
        have hB2 := hB.eqO hE2 (by decide)
        refine g_aload_n dX3_spellRoster_25 rfl ?_
        refine g_aload_n dX3_spellRoster_26 rfl ?_
        refine g_aload_n dX3_spellRoster_27 rfl ?_
        refine g_iload_n dX3_spellRoster_28 rfl ?_
        refine g_call1 dX3_spellRoster_29 clB_dutyAt ml_P_28 gc0 rfl rfl (by decide) (Nat.le_of_ble_eq_true rfl) ?_
        refine SB_dutyAt hB2 (by omega) ?_
        refine g_call2 dX3_spellRoster_32 clP_spellDuty ml_P_32 gc3 rfl rfl (by decide) (Nat.le_of_ble_eq_true rfl) ?_
        refine SP_spellDuty hB2 hP2 (by split <;> simp <;> omega) (sd_lt (by omega)) (fun M3 hE3 hP3 => ?_)
        first | refine g_incn3_2 dX3_spellRoster_35 ki_1 (by decide) rfl ?_ | refine g_incg3_2 (nI 1) dX3_spellRoster_35 ki_1 (by decide) rfl ?_
        refine g_goto 7 dX3_spellRoster_38 (by decide) ?_
        exact ih (by omega) M3 (hE2.tr hE3) hP3
      skip
      refine g_iload_n dX3_spellRoster_15 rfl ?_
      refine g_if_le_n 25 dX3_spellRoster_16 (by decide) (by omega) (fun c16 => ?_) (fun c16 => ?_)
      · exact hC M' hE (by rw [if_pos (by omega)]; simpa using hP)
      · refine g_aload_n dX3_spellRoster_19 rfl ?_
        refine g_bipush (nI 59) dX3_spellRoster_20 kb_59 ?_
        refine g_call1 dX3_spellRoster_22 clP_write ml_P_24 gc3 rfl rfl (by decide) (Nat.le_of_ble_eq_true rfl) ?_
        refine SP_write hP (by omega) (fun M2 hE2 hP2 => ?_)
        exact hC M2 (hE.tr hE2) (by rw [if_neg (by omega)]; exact hP2)
  refine hsp _ (fun M' hE hP => ?_)
  refine g_ireturn dX9_spell_11 rfl (by first | rfl | exact nar_bI _) ?_
  exact h M' hE hP
