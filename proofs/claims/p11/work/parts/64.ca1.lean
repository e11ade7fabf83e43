/-! calendar: pure, the class -/
def caP (n : Nat) (t : Nat → Nat) (q : TS) : TS × RU := (kdS n t (nuS n t 0 365 q), (nuV n t q, kdV n t (nuS n t 0 365 q), 0))
def caOK (x : RU) : Prop := x.1 ≤ 365 ∧ x.2.1 < 4
theorem caP_ok {n : Nat} {t : Nat → Nat} {q : TS} (h : okB (caP n t q).1 = true) : okB q = true ∧ caOK (caP n t q).2 := by
  unfold caP at h ⊢
  obtain ⟨h1, h2⟩ := ok_kd h
  obtain ⟨h3, h4, h5⟩ := ok_nu h1
  exact ⟨h3, h5, h2⟩
def csP (n : Nat) (t : Nat → Nat) : Nat → TS → List RU → TS × List RU
  | 0, q, l => (flA q, l)
  | r + 1, q, l => if tk n t 59 (caP n t q).1 = true then csP n t r (tkS n t 59 (caP n t q).1) (l ++ [(caP n t q).2]) else (enS n (caP n t q).1, l ++ [(caP n t q).2])
theorem csP_ok {n : Nat} {t : Nat → Nat} : ∀ {r : Nat} {q : TS} {l : List RU}, (∀ x ∈ l, caOK x) → okB (csP n t r q l).1 = true → (∀ x ∈ (csP n t r q l).2, caOK x) ∧ (csP n t r q l).2.length ≤ l.length + r ∧ l.length < (csP n t r q l).2.length
  | 0, q, l, hl, h => by rw [csP, ok_fl] at h; cases h
  | r + 1, q, l, hl, h => by
    have hx : ∀ {y : RU}, caOK y → ∀ x ∈ l ++ [y], caOK x := fun hy x hx => by
      rcases List.mem_append.mp hx with z | z
      · exact hl x z
      · rw [List.mem_singleton] at z; rw [z]; exact hy
    rw [csP] at h ⊢
    by_cases c : tk n t 59 (caP n t q).1 = true
    · rw [if_pos c] at h ⊢
      have h1 := csP_ok (hx (caP_ok (tk_ok c)).2) h
      rw [List.length_append, List.length_singleton] at h1
      exact ⟨h1.1, by omega, by omega⟩
    · rw [if_neg c] at h ⊢
      have h2 := caP_ok (ok_en h).1
      refine ⟨hx h2.2, ?_, ?_⟩
      · show (l ++ [(caP n t q).2]).length ≤ _
        rw [List.length_append, List.length_singleton]; omega
      · show _ < (l ++ [(caP n t q).2]).length
        rw [List.length_append, List.length_singleton]; omega
theorem gR_ca {l : List RU} (h : ∀ x ∈ l, caOK x) {j : Nat} (hj : j < l.length) : caOK (gR l j) := by
  refine h _ ?_
  show l.getD j z3 ∈ l
  rw [List.getD_eq_getElem?_getD, List.getElem?_eq_getElem hj]
  exact List.getElem_mem hj
def CWl (M : Mm) (l : List RU) : Prop := ∀ j, j < l.length → M 47 j = nI (gR l j).1 ∧ M 48 j = nI (gR l j).2.1
theorem CWl.app {M M' : Mm} {l : List RU} {x : RU} (h : CWl M l) (h1 : ∀ j, j ≠ l.length → M' 47 j = M 47 j ∧ M' 48 j = M 48 j) (h2 : M' 47 l.length = nI x.1 ∧ M' 48 l.length = nI x.2.1) : CWl M' (l ++ [x]) := by
  intro j hj
  rw [List.length_append, List.length_singleton] at hj
  by_cases e : j = l.length
  · subst e; rw [show gR (l ++ [x]) l.length = x from getD_lastR]; exact h2
  · rw [show gR (l ++ [x]) j = gR l j from getD_appR (by omega)]
    obtain ⟨k1, k2⟩ := h1 j e
    rw [k1, k2]
    exact h j (by omega)
theorem CWl.off {M M' : Mm} {l : List RU} (h : CWl M l) (h1 : M' 47 = M 47) (h2 : M' 48 = M 48) : CWl M' l := by
  intro j hj
  rw [h1, h2]
  exact h j hj
theorem SX_readCalendar {d : Nat} {n : Nat} {t : Nat → Nat} {M : Mm} {S : BS} {Q : Po} (hB : BK M S) (hT : TPc n t M) (h : ∀ M', EqO [41, 43, 47, 48] M M' → TC n t M' (csP n t (24 - S 1 0 0) (.inl 0) []).1 → (okB (csP n t (24 - S 1 0 0) (.inl 0) []).1 = true → M' 43 8 = nI (csP n t (24 - S 1 0 0) (.inl 0) []).2.length ∧ CWl M' (csP n t (24 - S 1 0 0) (.inl 0) []).2) → Q M' none) : Call (d + 5) mX_readCalendar [.ref 43] M Q := by
  have hw := hB.wf.nd
  refine Call_of (m := mX_readCalendar) [some (.ref 43), none, none] rfl (fun G => Nat.le_of_ble_eq_true rfl) (fun G => rfl) ?_
  refine g_bipush (nI 24) dX8_readCalendar_0 kb_24 ?_
  refine g_aload_n dX8_readCalendar_2 rfl ?_
  refine g_getr (j := 0) dX8_readCalendar_3 gc8 rfl (by decide) rfl (by decide) fl_X_30 ?_
  refine g_geti (j := 1) dX8_readCalendar_6 gc0 rfl (by decide) rfl (by decide) fl_X_89 ?_
  try simp (disch := omega) only [hB.nd]
  first | refine g_isub_n dX8_readCalendar_9 (by omega) ?_ | refine g_isub dX8_readCalendar_9 ?_
  refine g_ist3_1 dX8_readCalendar_10 (by decide) rfl ?_
  refine g_aload_n dX8_readCalendar_11 rfl ?_
  refine g_getr (j := 1) dX8_readCalendar_12 gc8 rfl (by decide) rfl (by decide) fl_X_34 ?_
  refine g_call0 dX8_readCalendar_15 clT_start ml_X_48 gc7 rfl rfl (by decide) (Nat.le_of_ble_eq_true rfl) ?_
  refine ST_start hT (fun M0 hE0 hT0 => ?_)
  refine g_iconst (nI 0) dX8_readCalendar_18 ki_0 ?_
  refine g_ist3_2 dX8_readCalendar_19 (by decide) rfl ?_
  suffices hloop : ∀ r q l M', l.length + r = 24 - S 1 0 0 → EqO [41, 43, 47, 48] M M' → TC n t M' q → okB q = true → CWl M' l → csP n t (24 - S 1 0 0) (.inl 0) [] = csP n t r q l → Go mX_readCalendar (d + 5) Q 20 [some (.ref 43), some (.int (nI (24 - S 1 0 0))), some (.int (nI l.length))] [] M' by
    exact hloop _ _ [] M0 (by simp) (hE0.sub (by decide)) hT0 rfl (fun j hj => absurd hj (by simp)) rfl
  intro r
  induction r with
  | zero =>
    intro q l M' hl hE hT1 hok hR hq
    rw [hq, csP] at h
    refine g_iload_n dX8_readCalendar_20 rfl ?_
    refine g_iload_n dX8_readCalendar_21 rfl ?_
    refine g_icmp_ge_n 95 dX8_readCalendar_22 (by decide) (by omega) (by omega) (fun c22 => ?_) (fun c22 => ?_)
    · skip
      refine g_aload_n dX8_readCalendar_95 rfl ?_
      refine g_getr (j := 1) dX8_readCalendar_96 gc8 rfl (by decide) rfl (by decide) fl_X_34 ?_
      refine g_aload_n dX8_readCalendar_99 rfl ?_
      refine g_getr (j := 1) dX8_readCalendar_100 gc8 rfl (by decide) rfl (by decide) fl_X_34 ?_
      refine g_call0 dX8_readCalendar_103 clT_at ml_X_64 gc7 rfl rfl (by decide) (Nat.le_of_ble_eq_true rfl) ?_
      refine ST_at ?_
      refine g_call1 dX8_readCalendar_106 clT_fail ml_X_68 gc7 rfl rfl (by decide) (Nat.le_of_ble_eq_true rfl) ?_
      refine ST_failA hT1 rfl (fun M2 hE2 hT2 => ?_)
      refine g_return dX8_readCalendar_109 rfl ?_
      exact h M2 (hE.tr (hE2.sub (by decide))) hT2 (fun z => by rw [ok_fl] at z; cases z)
    · exact absurd hl (by omega)
  | succ r ih =>
    intro q l M' hl hE hT1 hok hR hq
    rw [csP] at hq
    refine g_iload_n dX8_readCalendar_20 rfl ?_
    refine g_iload_n dX8_readCalendar_21 rfl ?_
    refine g_icmp_ge_n 95 dX8_readCalendar_22 (by decide) (by omega) (by omega) (fun c22 => ?_) (fun c22 => ?_)
    · exact absurd hl (by omega)
    · refine g_iload_n dX8_readCalendar_25 rfl ?_
      refine g_bipush (nI 24) dX8_readCalendar_26 kb_24 ?_
      refine g_icmp_ge_n 95 dX8_readCalendar_28 (by decide) (by omega) (by omega) (fun c28 => ?_) (fun c28 => ?_)
      · exact absurd hl (by omega)
      · refine g_aload_n dX8_readCalendar_31 rfl ?_
        refine g_getr (j := 5) dX8_readCalendar_32 gc8 rfl (by decide) rfl (by decide) fl_X_21 ?_
        refine g_iload_n dX8_readCalendar_35 rfl ?_
        refine g_aload_n dX8_readCalendar_36 rfl ?_
        refine g_getr (j := 1) dX8_readCalendar_37 gc8 rfl (by decide) rfl (by decide) fl_X_34 ?_
        refine g_iconst (nI 0) dX8_readCalendar_40 ki_0 ?_
        refine g_sipush (nI 365) dX8_readCalendar_41 ks_365 ?_
        refine g_call2 dX8_readCalendar_44 clT_takeNumber ml_X_75 gc7 rfl rfl (by decide) (Nat.le_of_ble_eq_true rfl) ?_
        refine ST_takeNumber (lo := 0) (hi := 365) hT1 (fun _ => ⟨rfl, rfl⟩) (by omega) (by omega) (fun M2 v1 hE2 hT2 hv1 => ?_)
        refine g_iast_n dX8_readCalendar_47 (by first | rfl | assumption) (by first | decide | assumption) (by omega) (by omega) ?_
        refine g_aload_n dX8_readCalendar_48 rfl ?_
        refine g_getr (j := 6) dX8_readCalendar_49 gc8 rfl (by decide) rfl (by decide) fl_X_24 ?_
        refine g_iload_n dX8_readCalendar_52 rfl ?_
        refine g_aload_n dX8_readCalendar_53 rfl ?_
        refine g_getr (j := 1) dX8_readCalendar_54 gc8 rfl (by decide) rfl (by decide) fl_X_34 ?_
        refine g_call0 dX8_readCalendar_57 clT_takeKind ml_X_82 gc7 rfl rfl (by decide) (Nat.le_of_ble_eq_true rfl) ?_
        refine ST_takeKind (hT2.off (mset_ne (by decide)) (mset_ne (by decide))) (fun M3 hE3 hT3 => ?_)
        refine g_iast_n dX8_readCalendar_60 (by first | rfl | assumption) (by first | decide | assumption) (by omega) (by omega) ?_
        refine g_aload_n dX8_readCalendar_61 rfl ?_
        refine g_iload_n dX8_readCalendar_62 rfl ?_
        refine g_iconst (nI 1) dX8_readCalendar_63 ki_1 ?_
        first | refine g_iadd_n dX8_readCalendar_64 ?_ | refine g_iadd dX8_readCalendar_64 ?_
        refine g_puti (j := 8) dX8_readCalendar_65 gc8 rfl (by decide) rfl (by decide) fl_X_38 rfl (tyX8_ok 8 (by decide)) (by first | rfl | exact nar_bI _) rfl ?_
        refine g_aload_n dX8_readCalendar_68 rfl ?_
        refine g_getr (j := 1) dX8_readCalendar_69 gc8 rfl (by decide) rfl (by decide) fl_X_34 ?_
        refine g_call0 dX8_readCalendar_72 clT_isFaulty ml_X_57 gc7 rfl rfl (by decide) (Nat.le_of_ble_eq_true rfl) ?_
        generalize hM5 : mset (mset M3 48 l.length (kv (kdV n t (nuS n t 0 365 q)))) 43 8 (nI (l.length + 1)) = M5
        have hT5 : TC n t M5 (caP n t q).1 := by
          rw [← hM5]
          exact (hT3.off (mset_ne (by decide)) (mset_ne (by decide))).off (mset_ne (by decide)) (mset_ne (by decide))
        have hE5 : EqO [41, 43, 47, 48] M M5 := by
          rw [← hM5]
          exact (((hE.tr (hE2.sub (by decide))).tr (EqO.set (by decide))).tr (hE3.sub (by decide))).tr ((EqO.set (by decide)).tr (EqO.set (by decide)))
        have e43 : M5 43 8 = nI (l.length + 1) := by rw [← hM5, mset_at]
        have e47 : M5 47 = upd (M' 47) l.length v1 := by rw [← hM5, mset_ne (by decide), mset_ne (by decide), hE3 47 (by decide), mset_same, hE2 47 (by decide)]
        have e48 : M5 48 = upd (M' 48) l.length (kv (kdV n t (nuS n t 0 365 q))) := by rw [← hM5, mset_ne (by decide), mset_same, hE3 48 (by decide), mset_ne (by decide), hE2 48 (by decide)]
        clear hM5
        refine ST_isFaulty hT5 ?_
        by_cases hok2 : okB (caP n t q).1 = true
        · have hkd : kdV n t (nuS n t 0 365 q) < 4 := (caP_ok hok2).2.2
          have hR2 : CWl M5 (l ++ [(caP n t q).2]) := by
            refine hR.app (fun j hj => ?_) ?_
            · rw [e47, e48, upd_off hj, upd_off hj]; exact ⟨rfl, rfl⟩
            · rw [e47, e48, upd_at, upd_at]
              refine ⟨hv1 hok, ?_⟩
              unfold kv
              rw [if_neg (by omega)]
              rfl
          rw [hok2]
          refine g_if_ne_ff 88 dX8_readCalendar_75 (by decide) ?_
          refine g_aload_n dX8_readCalendar_78 rfl ?_
          refine g_getr (j := 1) dX8_readCalendar_79 gc8 rfl (by decide) rfl (by decide) fl_X_34 ?_
          refine g_call0 dX8_readCalendar_82 clT_takesPart ml_X_61 gc7 rfl rfl (by decide) (Nat.le_of_ble_eq_true rfl) ?_
          refine ST_takesPart hT5 (fun M4 hE4 hT4 => ?_)
          have hR4 : CWl M4 (l ++ [(caP n t q).2]) := hR2.off (hE4 47 (by decide)) (hE4 48 (by decide))
          by_cases c : tk n t 59 (caP n t q).1 = true
          · rw [if_pos c] at hq hT4
            rw [c]
            refine g_if_ne_tt 89 dX8_readCalendar_85 (by decide) ?_
            first | refine g_incn3_2 dX8_readCalendar_89 ki_1 (by decide) rfl ?_ | refine g_incg3_2 (nI 1) dX8_readCalendar_89 ki_1 (by decide) rfl ?_
            refine g_goto 20 dX8_readCalendar_92 (by decide) ?_
            rw [show l.length + 1 = (l ++ [(caP n t q).2]).length by simp]
            exact ih _ _ M4 (by simp; omega) (hE5.tr (hE4.sub (by decide))) hT4 (by rw [ok_tk]; exact hok2) hR4 hq
          · rw [if_neg c] at hq hT4
            rw [hq] at h
            rw [Bool.eq_false_iff.mpr c]
            refine g_if_ne_ff 89 dX8_readCalendar_85 (by decide) ?_
            refine g_return dX8_readCalendar_88 rfl ?_
            refine h M4 (hE5.tr (hE4.sub (by decide))) hT4 (fun _ => ⟨?_, hR4⟩)
            rw [hE4 43 (by decide), e43]
            simp
        · have hok2 := Bool.eq_false_iff.mpr hok2
          rw [if_neg (by rw [tk_no hok2]; decide)] at hq
          rw [hq, en_no hok2] at h
          rw [hok2]
          refine g_if_ne_tt 88 dX8_readCalendar_75 (by decide) ?_
          refine g_return dX8_readCalendar_88 rfl ?_
          exact h _ hE5 hT5 (fun z => by rw [hok2] at z; cases z)
def adC (S : BS) (l : List RU) : Nat → BS
  | 0 => S
  | k + 1 => addD (adC S l k) (gR l k).1 (gR l k).2.1
theorem adC_nd (S : BS) (l : List RU) : ∀ k, adC S l k 1 0 0 = S 1 0 0 + k
  | 0 => rfl
  | k + 1 => by rw [adC, addD_1, adC_nd S l k]; rfl
theorem adC_HM {S : BS} (hH : HM S) (l : List RU) : ∀ k, HM (adC S l k)
  | 0 => hH
  | k + 1 => by rw [adC]; exact addD_HO (adC_HM hH l k)
theorem SX_addDuties {d : Nat} {M : Mm} {S : BS} {Q : Po} {l : List RU} (hB : BK M S) (hl : S 1 0 0 + l.length ≤ 24) (hv : ∀ x ∈ l, caOK x) (hc : M 43 8 = nI l.length) (hR : CWl M l) (h : ∀ M', EqO [1, 2, 10, 11, 12] M M' → BK M' (adC S l l.length) → Q M' (some (.int (nI l.length)))) : Call (d + 5) mX_addDuties [.ref 43] M Q := by
  refine Call_of (m := mX_addDuties) [some (.ref 43), none] rfl (fun G => Nat.le_of_ble_eq_true rfl) (fun G => rfl) ?_
  refine g_iconst (nI 0) dX8_addDuties_0 ki_0 ?_
  refine g_ist2_1 dX8_addDuties_1 (by decide) rfl ?_
  refine loop_up (P := fun i => ∀ M', EqO [1, 2, 10, 11, 12] M M' → BK M' (adC S l i) → Go mX_addDuties (d + 5) Q 2 [some (.ref 43), some (.int (nI i))] [] M') l.length ?_ 0 (Nat.zero_le _) M EqO.rf hB
  intro i hi ih M' hE hB'
  have hc' : M' 43 8 = nI l.length := by rw [hE 43 (by decide)]; exact hc
  refine g_iload_n dX8_addDuties_2 rfl ?_
  refine g_aload_n dX8_addDuties_3 rfl ?_
  refine g_geti (j := 8) dX8_addDuties_4 gc8 rfl (by decide) rfl (by decide) fl_X_38 ?_
  try simp (disch := omega) only [hc']
  refine g_icmp_ge_n 42 dX8_addDuties_7 (by decide) (by omega) (by omega) (fun c7 => ?_) (fun c7 => ?_)
  · refine g_aload_n dX8_addDuties_42 rfl ?_
    refine g_geti (j := 8) dX8_addDuties_43 gc8 rfl (by decide) rfl (by decide) fl_X_38 ?_
    try simp (disch := omega) only [hc']
    refine g_ireturn dX8_addDuties_46 rfl (by first | rfl | exact nar_bI _) ?_
    rw [show i = l.length by omega] at hB'
    exact h M' hE hB'
  · refine g_iload_n dX8_addDuties_10 rfl ?_
    refine g_bipush (nI 24) dX8_addDuties_11 kb_24 ?_
    refine g_icmp_ge_n 42 dX8_addDuties_13 (by decide) (by omega) (by omega) (fun c13 => ?_) (fun c13 => ?_)
    · exact absurd hl (by omega)
    · obtain ⟨r1, r2⟩ := hR i (by omega)
      have hok := gR_ca hv (j := i) (by omega)
      have s1 : M' 47 i = nI (gR l i).1 := by rw [hE 47 (by decide)]; exact r1
      have s2 : M' 48 i = nI (gR l i).2.1 := by rw [hE 48 (by decide)]; exact r2
      refine g_aload_n dX8_addDuties_16 rfl ?_
      refine g_getr (j := 0) dX8_addDuties_17 gc8 rfl (by decide) rfl (by decide) fl_X_30 ?_
      refine g_aload_n dX8_addDuties_20 rfl ?_
      refine g_getr (j := 5) dX8_addDuties_21 gc8 rfl (by decide) rfl (by decide) fl_X_21 ?_
      refine g_iload_n dX8_addDuties_24 rfl ?_
      refine g_iald_n dX8_addDuties_25 (by first | rfl | assumption) (by first | decide | assumption) (by omega) (by omega) ?_
      try simp (disch := omega) only [s1, s2]
      refine g_aload_n dX8_addDuties_26 rfl ?_
      refine g_getr (j := 6) dX8_addDuties_27 gc8 rfl (by decide) rfl (by decide) fl_X_24 ?_
      refine g_iload_n dX8_addDuties_30 rfl ?_
      refine g_iald_n dX8_addDuties_31 (by first | rfl | assumption) (by first | decide | assumption) (by omega) (by omega) ?_
      try simp (disch := omega) only [s1, s2]
      refine g_call2 dX8_addDuties_32 clB_addDuty ml_X_92 gc0 rfl rfl (by decide) (Nat.le_of_ble_eq_true rfl) ?_
      refine SB_addDuty hB' hok.1 hok.2 (by rw [adC_nd]; omega) (fun M2 hE2 hB2 => ?_)
      refine g_pop dX8_addDuties_35 rfl ?_
      first | refine g_incn2_1 dX8_addDuties_36 ki_1 (by decide) rfl ?_ | refine g_incg2_1 (nI 1) dX8_addDuties_36 ki_1 (by decide) rfl ?_
      refine g_goto 2 dX8_addDuties_39 (by decide) ?_
      exact ih (by omega) M2 (hE.tr hE2) hB2
def f_calendar (S : BS) (n : Nat) (t : Nat → Nat) : Int32 × BS × Bool := (clV (nI (csP n t (24 - S 1 0 0) (.inl 0) []).2.length) (csP n t (24 - S 1 0 0) (.inl 0) []).1, if okB (csP n t (24 - S 1 0 0) (.inl 0) []).1 = true then adC S (csP n t (24 - S 1 0 0) (.inl 0) []).2 (csP n t (24 - S 1 0 0) (.inl 0) []).2.length else S, false)
theorem SF_calendar (M : Mm) (S : BS) (n : Nat) (t : Nat → Nat) (Q : Po) (hB : BK M S) (hH : HM S) (hT : TPc n t M) (h : ∀ M', FxC M M' → BK M' (f_calendar S n t).2.1 → M' 41 1 = (if (f_calendar S n t).2.2 = true then nI n else nI 0) → Q M' (some (.int (f_calendar S n t).1))) : Call 60 mF_calendar [.ref 0] M Q := by
  have hw := hB.wf.nd
  unfold f_calendar at h
  dsimp only at h
  refine Call_of (m := mF_calendar) [some (.ref 0), none] rfl (fun G => Nat.le_of_ble_eq_true rfl) (fun G => rfl) ?_
  refine g_aload_n dX9_calendar_0 rfl ?_
  refine g_getr (j := 7) dX9_calendar_1 gc9 rfl (by decide) rfl (by decide) fl_F_58 ?_
  refine g_call0 dX9_calendar_4 clX_readCalendar ml_F_170 gc8 rfl rfl (by decide) (Nat.le_of_ble_eq_true rfl) ?_
  refine SX_readCalendar hB hT (fun M1 hE1 hT1 hv1 => ?_)
  have hB1 : BK M1 S := hB.eqO hE1 (by decide)
  generalize hrs : csP n t (24 - S 1 0 0) (.inl 0) [] = r at h hT1 hv1
  refine g_aload_n dX9_calendar_7 rfl ?_
  refine g_getr (j := 6) dX9_calendar_8 gc9 rfl (by decide) rfl (by decide) fl_F_49 ?_
  refine g_call0 dX9_calendar_11 clT_isFaulty ml_F_145 gc7 rfl rfl (by decide) (Nat.le_of_ble_eq_true rfl) ?_
  refine ST_isFaulty hT1 ?_
  by_cases hok : okB r.1 = true
  · obtain ⟨v1, v2, v3⟩ := csP_ok (n := n) (t := t) (r := 24 - S 1 0 0) (q := .inl 0) (l := []) (fun x hx => absurd hx (by simp)) (by rw [hrs]; exact hok)
    rw [hrs] at v1 v2
    obtain ⟨u1, u2⟩ := hv1 hok
    rw [if_pos hok] at h
    rw [hok]
    refine g_if_eq_ff 22 dX9_calendar_14 (by decide) ?_
    refine g_aload_n dX9_calendar_22 rfl ?_
    refine g_getr (j := 7) dX9_calendar_23 gc9 rfl (by decide) rfl (by decide) fl_F_58 ?_
    refine g_call0 dX9_calendar_26 clX_addDuties ml_F_173 gc8 rfl rfl (by decide) (Nat.le_of_ble_eq_true rfl) ?_
    refine SX_addDuties hB1 (by simp at v2; omega) v1 u1 u2 (fun M2 hE2 hB2 => ?_)
    refine g_ist2_1 dX9_calendar_29 (by decide) rfl ?_
    refine g_aload_n dX9_calendar_30 rfl ?_
    refine g_getr (j := 6) dX9_calendar_31 gc9 rfl (by decide) rfl (by decide) fl_F_49 ?_
    refine g_call0 dX9_calendar_34 clT_wipe ml_F_158 gc7 rfl rfl (by decide) (Nat.le_of_ble_eq_true rfl) ?_
    refine ST_wipe ?_
    refine g_pop dX9_calendar_37 rfl ?_
    refine g_iload_n dX9_calendar_38 rfl ?_
    refine g_ireturn dX9_calendar_39 rfl (by first | rfl | exact nar_bI _) ?_
    obtain ⟨q, r2⟩ := r
    cases q with
    | inl a =>
      refine h (mset M2 41 1 (nI 0)) (FxC.of (L := [1, 2, 10, 11, 12, 41, 43, 47, 48]) ((hE1.sub (by decide)).tr ((hE2.sub (by decide)).tr (EqO.set (by decide)))) (by decide)) (hB2.off (fun k k1 k2 => mset_ne (by omega))) ?_
      rw [mset_at]; rfl
    | inr f => cases hok
  · have hok := Bool.eq_false_iff.mpr hok
    rw [if_neg (by rw [hok]; decide)] at h
    rw [hok]
    obtain ⟨q, r2⟩ := r
    cases q with
    | inl a => cases hok
    | inr f =>
      refine g_if_eq_tt 22 dX9_calendar_14 (by decide) ?_
      refine g_aload_n dX9_calendar_17 rfl ?_
      refine g_call0 dX9_calendar_18 clF_faultAnswer ml_F_149 gc9 rfl rfl (by decide) (Nat.le_of_ble_eq_true rfl) ?_
      refine SF_faultAnswer hT1 ?_
      refine g_ireturn dX9_calendar_21 rfl (by first | rfl | exact nar_bI _) ?_
      refine h (mset M1 41 1 (nI 0)) (FxC.of (L := [41, 43, 47, 48]) (hE1.tr (EqO.set (by decide))) (by decide)) (hB1.off (fun k k1 k2 => mset_ne (by omega))) ?_
      rw [mset_at]; rfl
