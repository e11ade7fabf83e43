/-! calendar in the reference, both -/
def CWm (M : Mm) (l : List RU) : Prop := ∀ j, j < l.length → M 70 (3 * j) = nI (gR l j).1 ∧ M 70 (3 * j + 1) = nI (gR l j).2.1
theorem CWm.app {M M' : Mm} {l : List RU} {x : RU} (h : CWm M l) (h1 : ∀ j, j < 3 * l.length → M' 70 j = M 70 j) (h2 : M' 70 (3 * l.length) = nI x.1 ∧ M' 70 (3 * l.length + 1) = nI x.2.1) : CWm M' (l ++ [x]) := by
  intro j hj
  rw [List.length_append, List.length_singleton] at hj
  by_cases e : j = l.length
  · subst e; rw [show gR (l ++ [x]) l.length = x from getD_lastR]; exact h2
  · rw [show gR (l ++ [x]) j = gR l j from getD_appR (by omega), h1 _ (by omega), h1 _ (by omega)]
    exact h j (by omega)
theorem CWm.off {M M' : Mm} {l : List RU} (h : CWm M l) (h1 : M' 70 = M 70) : CWm M' l := by
  intro j hj
  rw [h1]
  exact h j hj
theorem en_bad {n : Nat} {t : Nat → Nat} {M : Mm} {q : TS} (hT : TM n t M q) (h : okB (enS n q) = false) : ∃ f, enS n q = .inr f ∧ f < 151 := by
  have hn := hT.1.1
  cases q with
  | inl b =>
    have hb : b ≤ n := hT.2.1
    simp only [enS] at h ⊢
    split at h
    · rename_i z; rw [if_pos z]; exact ⟨b, rfl, by omega⟩
    · cases h
  | inr f => exact ⟨f, rfl, hT.le⟩
theorem cl_ok {w : Int32} {q : TS} (h : okB q = true) : clV w q = w := by
  cases q with
  | inl a => rfl
  | inr f => cases h
theorem SM_calendar (M : Mm) (S : BS) (n : Nat) (t : Nat → Nat) (Q : Po) (hM : MK (M 58) S) (hC : MC M) (hH : HM S) (hT : TPm n t M) (h : ∀ M', FxM M M' → MK (M' 58) (f_calendar S n t).2.1 → M' 57 19 = (if (f_calendar S n t).2.2 = true then nI n else nI 0) → Q M' (some (.int (f_calendar S n t).1))) : Call 60 mM_calendar [.ref 57] M Q := by
  have hw := hM.wf.nd
  unfold f_calendar at h
  dsimp only at h
  refine Call_of (m := mM_calendar) [some (.ref 57), none, none] rfl (fun G => Nat.le_of_ble_eq_true rfl) (fun G => rfl) ?_
  refine g_aload_n dX10_calendar_0 rfl ?_
  refine g_call0 dX10_calendar_1 clM_opensTape ml_M_282 gc10 rfl rfl (by decide) (Nat.le_of_ble_eq_true rfl) ?_
  refine SM_opensTape hT (fun M1 hE1 hT1 => ?_)
  refine g_aload_n dX10_calendar_4 rfl ?_
  refine g_iconst (nI 0) dX10_calendar_5 ki_0 ?_
  refine g_puti (j := 24) dX10_calendar_6 gc10 rfl (by decide) rfl (by decide) fl_M_270 rfl (tyX10_ok 24 (by decide)) (by first | rfl | exact nar_bI _) rfl ?_
  have hinv := fun (hx : okB (csP n t (24 - S 1 0 0) (.inl 0) []).1 = true) => csP_ok (n := n) (t := t) (r := 24 - S 1 0 0) (q := .inl 0) (l := []) (fun x hx => absurd hx (by simp)) hx
  have htail : ∀ q l M', EqQ [70] M M' → TM n t M' q → M' 57 24 = nI l.length → csP n t (24 - S 1 0 0) (.inl 0) [] = (enS n q, l) → (okB (enS n q) = true → CWm M' l) → Go mM_calendar 60 Q 91 [some (.ref 57), none, none] [] M' := by
    intro q l M' hE hT2 h24 hrs hR
    rw [hrs] at h hinv
    dsimp only at h
    refine g_aload_n dX10_calendar_91 rfl ?_
    refine g_aload_n dX10_calendar_92 rfl ?_
    refine g_geti (j := 24) dX10_calendar_93 gc10 rfl (by decide) rfl (by decide) fl_M_270 ?_
    try simp (disch := omega) only [h24]
    refine g_call1 dX10_calendar_96 clM_closes ml_M_288 gc10 rfl rfl (by decide) (Nat.le_of_ble_eq_true rfl) ?_
    refine SM_closes _ hT2 (fun M2 hE2 h19 => ?_)
    have hX2 : EqX [58, 70] M M2 := ((EqX.ofQ hE).sub (by decide)).tr (EqX.ofC hE2)
    have k58 : M2 58 = M 58 := by
      funext j
      rw [hE2 58 j (by omega), hE 58 j (by decide) (by omega)]
    have hM2 : MK (M2 58) S := by rw [k58]; exact hM
    by_cases hok : okB (enS n q) = true
    · obtain ⟨v1, v2, v3⟩ := hinv hok
      have v2 : l.length ≤ 24 - S 1 0 0 := by simpa using v2
      have v1 : ∀ x ∈ l, caOK x := v1
      have hR2 : CWm M2 l := (hR hok).off (funext fun j => hE2 70 j (by omega))
      rw [if_pos hok] at h
      rw [cl_ok hok] at h ⊢
      refine g_ist3_1 dX10_calendar_99 (by decide) rfl ?_
      refine g_iconst (nI 0) dX10_calendar_100 ki_0 ?_
      refine g_ist3_2 dX10_calendar_101 (by decide) rfl ?_
      refine loop_up (P := fun i => ∀ M', EqO [58] M2 M' → MK (M' 58) (adC S l i) → Go mM_calendar 60 Q 102 [some (.ref 57), some (.int (nI l.length)), some (.int (nI i))] [] M') l.length ?_ 0 (Nat.zero_le _) M2 EqO.rf hM2
      intro i hi ih M3 hE3 hM3
      refine g_iload_n dX10_calendar_102 rfl ?_
      refine g_iload_n dX10_calendar_103 rfl ?_
      refine g_icmp_ge_n 135 dX10_calendar_104 (by decide) (by omega) (by omega) (fun c104 => ?_) (fun c104 => ?_)
      · refine g_iload_n dX10_calendar_135 rfl ?_
        refine g_ireturn dX10_calendar_136 rfl (by first | rfl | exact nar_bI _) ?_
        rw [show i = l.length by omega] at hM3
        refine h M3 (FxM.ofX (hX2.tr ((EqX.ofO hE3).sub (by decide))) (by decide)) hM3 ?_
        rw [hE3 57 (by decide), h19]
        rfl
      · obtain ⟨r1, r2⟩ := hR2 i (by omega)
        have hok := gR_ca v1 (j := i) (by omega)
        have s1 : M3 70 (3 * i) = nI (gR l i).1 := by rw [hE3 70 (by decide)]; exact r1
        have s2 : M3 70 (3 * i + 1) = nI (gR l i).2.1 := by rw [hE3 70 (by decide)]; exact r2
        refine g_aload_n dX10_calendar_107 rfl ?_
        refine g_aload_n dX10_calendar_108 rfl ?_
        refine g_getr (j := 23) dX10_calendar_109 gc10 rfl (by decide) rfl (by decide) fl_M_47 ?_
        refine g_iconst (nI 3) dX10_calendar_112 ki_3 ?_
        refine g_iload_n dX10_calendar_113 rfl ?_
        first | refine g_imul_n dX10_calendar_114 ?_ | refine g_imul dX10_calendar_114 ?_
        refine g_iald_n dX10_calendar_115 (by first | rfl | assumption) (by first | decide | assumption) (by omega) (by omega) ?_
        try simp (disch := omega) only [s1, s2]
        refine g_aload_n dX10_calendar_116 rfl ?_
        refine g_getr (j := 23) dX10_calendar_117 gc10 rfl (by decide) rfl (by decide) fl_M_47 ?_
        refine g_iconst (nI 3) dX10_calendar_120 ki_3 ?_
        refine g_iload_n dX10_calendar_121 rfl ?_
        first | refine g_imul_n dX10_calendar_122 ?_ | refine g_imul dX10_calendar_122 ?_
        refine g_iconst (nI 1) dX10_calendar_123 ki_1 ?_
        first | refine g_iadd_n dX10_calendar_124 ?_ | refine g_iadd dX10_calendar_124 ?_
        refine g_iald_n dX10_calendar_125 (by first | rfl | assumption) (by first | decide | assumption) (by omega) (by omega) ?_
        try simp (disch := omega) only [s1, s2]
        refine g_call2 dX10_calendar_126 clM_adds ml_M_137 gc10 rfl rfl (by decide) (Nat.le_of_ble_eq_true rfl) ?_
        refine SM_adds hM3 hok.1 hok.2 (by rw [adC_nd]; omega) (fun M4 hE4 hM4 => ?_)
        first | refine g_incn3_2 dX10_calendar_129 ki_1 (by decide) rfl ?_ | refine g_incg3_2 (nI 1) dX10_calendar_129 ki_1 (by decide) rfl ?_
        refine g_goto 102 dX10_calendar_132 (by decide) ?_
        exact ih (by omega) M4 (hE3.tr hE4) hM4
    · have hok := Bool.eq_false_iff.mpr hok
      rw [if_neg (by rw [hok]; decide)] at h
      obtain ⟨f, hf, hf2⟩ := en_bad hT2 hok
      have hneg := (neg_3 f hf2).2
      rw [hf] at h ⊢
      rw [show clV (nI l.length) (.inr f) = -100 - nI f from rfl] at h ⊢
      generalize -100 - nI f = w0 at h hneg ⊢
      refine g_ist3_1 dX10_calendar_99 (by decide) rfl ?_
      refine g_iconst (nI 0) dX10_calendar_100 ki_0 ?_
      refine g_ist3_2 dX10_calendar_101 (by decide) rfl ?_
      refine g_iload_n dX10_calendar_102 rfl ?_
      refine g_iload_n dX10_calendar_103 rfl ?_
      refine g_icmp_ge 135 dX10_calendar_104 (by decide) (fun c104 => ?_) (fun c104 => ?_)
      · refine g_iload_n dX10_calendar_135 rfl ?_
        refine g_ireturn dX10_calendar_136 rfl (by first | rfl | exact nar_bI _) ?_
        refine h M2 (FxM.ofX hX2 (by decide)) hM2 ?_
        rw [h19]
        rfl
      · exact absurd hneg c104
  suffices hloop : ∀ r q l M', l.length + r = 24 - S 1 0 0 → EqQ [70] M M' → TM n t M' q → M' 57 24 = nI l.length → CWm M' l → csP n t (24 - S 1 0 0) (.inl 0) [] = csP n t r q l → Go mM_calendar 60 Q 9 [some (.ref 57), none, none] [] M' by
    exact hloop _ _ [] _ (by simp) ((hE1.q.sub (by simp)).tr (EqQ.set57 (by omega))) (hT1.off (mset_ne (by decide)) (fun j hj => mset_off (by omega))) (mset_at _ _ _ _) (fun j hj => absurd hj (by simp)) rfl
  intro r
  clear h
  induction r with
  | zero =>
    intro q l M' hl hE hT2 h24 hR hq
    rw [csP] at hq
    have end_ : M' 58 2 = nI (S 1 0 0) := by rw [hE 58 _ (by decide) (by omega)]; exact hM.nd
    refine g_aload_n dX10_calendar_9 rfl ?_
    refine g_getr (j := 0) dX10_calendar_10 gc10 rfl (by decide) rfl (by decide) fl_M_9 ?_
    refine g_iconst (nI 2) dX10_calendar_13 ki_2 ?_
    refine g_iald_n dX10_calendar_14 (by first | rfl | assumption) (by first | decide | assumption) (by omega) (by omega) ?_
    try simp (disch := omega) only [end_, h24]
    refine g_aload_n dX10_calendar_15 rfl ?_
    refine g_geti (j := 24) dX10_calendar_16 gc10 rfl (by decide) rfl (by decide) fl_M_270 ?_
    try simp (disch := omega) only [end_, h24]
    first | refine g_iadd_n dX10_calendar_19 ?_ | refine g_iadd dX10_calendar_19 ?_
    refine g_bipush (nI 24) dX10_calendar_20 kb_24 ?_
    refine g_icmp_lt_n 36 dX10_calendar_22 (by decide) (by omega) (by omega) (fun c22 => ?_) (fun c22 => ?_)
    · exact absurd hl (by omega)
    · refine g_aload_n dX10_calendar_25 rfl ?_
      refine g_aload_n dX10_calendar_26 rfl ?_
      refine g_geti (j := 20) dX10_calendar_27 gc10 rfl (by decide) rfl (by decide) fl_M_251 ?_
      try simp (disch := omega) only [end_, h24]
      refine g_call1 dX10_calendar_30 clM_faults ml_M_260 gc10 rfl rfl (by decide) (Nat.le_of_ble_eq_true rfl) ?_
      refine SM_faultsA hT2 rfl (fun M2 hE2 hT3 => ?_)
      refine g_goto 82 dX10_calendar_33 (by decide) ?_
      refine g_aload_n dX10_calendar_82 rfl ?_
      refine g_bipush (nI 59) dX10_calendar_83 kb_59 ?_
      refine g_call1 dX10_calendar_85 clM_takes ml_M_257 gc10 rfl rfl (by decide) (Nat.le_of_ble_eq_true rfl) ?_
      refine SM_takes (c := 59) (by omega) hT3 (fun M3 hE3 hT4 => ?_)
      rw [tkS_f tk_fl] at hT4
      rw [tk_fl]
      refine g_if_ne_ff 9 dX10_calendar_88 (by decide) ?_
      exact htail (flA q) l M3 (hE.tr ((hE2.q.sub (by simp)).tr (hE3.q.sub (by simp)))) hT4 (by rw [hE3 57 24 (by omega), hE2 57 24 (by omega)]; exact h24) (by rw [en_fl]; exact hq) (fun z => by rw [en_fl, ok_fl] at z; cases z)
  | succ r ih =>
    intro q l M' hl hE hT2 h24 hR hq
    rw [csP] at hq
    have end_ : M' 58 2 = nI (S 1 0 0) := by rw [hE 58 _ (by decide) (by omega)]; exact hM.nd
    have hC2 : MC M' := ⟨fun j hj => by rw [hE 60 _ (by decide) (by omega)]; exact hC.1 j hj, fun j hj => by rw [hE 61 _ (by decide) (by omega)]; exact hC.2 j hj⟩
    refine g_aload_n dX10_calendar_9 rfl ?_
    refine g_getr (j := 0) dX10_calendar_10 gc10 rfl (by decide) rfl (by decide) fl_M_9 ?_
    refine g_iconst (nI 2) dX10_calendar_13 ki_2 ?_
    refine g_iald_n dX10_calendar_14 (by first | rfl | assumption) (by first | decide | assumption) (by omega) (by omega) ?_
    try simp (disch := omega) only [end_, h24]
    refine g_aload_n dX10_calendar_15 rfl ?_
    refine g_geti (j := 24) dX10_calendar_16 gc10 rfl (by decide) rfl (by decide) fl_M_270 ?_
    try simp (disch := omega) only [end_, h24]
    first | refine g_iadd_n dX10_calendar_19 ?_ | refine g_iadd dX10_calendar_19 ?_
    refine g_bipush (nI 24) dX10_calendar_20 kb_24 ?_
    refine g_icmp_lt_n 36 dX10_calendar_22 (by decide) (by omega) (by omega) (fun c22 => ?_) (fun c22 => ?_)
    rotate_left
    · exact absurd hl (by omega)
    refine g_aload_n dX10_calendar_36 rfl ?_
    refine g_getr (j := 23) dX10_calendar_37 gc10 rfl (by decide) rfl (by decide) fl_M_47 ?_
    refine g_iconst (nI 3) dX10_calendar_40 ki_3 ?_
    refine g_aload_n dX10_calendar_41 rfl ?_
    refine g_geti (j := 24) dX10_calendar_42 gc10 rfl (by decide) rfl (by decide) fl_M_270 ?_
    try simp (disch := omega) only [end_, h24]
    first | refine g_imul_n dX10_calendar_45 ?_ | refine g_imul dX10_calendar_45 ?_
    refine g_aload_n dX10_calendar_46 rfl ?_
    refine g_iconst (nI 0) dX10_calendar_47 ki_0 ?_
    refine g_sipush (nI 365) dX10_calendar_48 ks_365 ?_
    refine g_call2 dX10_calendar_51 clM_number ml_M_273 gc10 rfl rfl (by decide) (Nat.le_of_ble_eq_true rfl) ?_
    refine SM_number (lo := 0) (hi := 365) hT2 (fun _ => ⟨rfl, rfl⟩) (by omega) (by omega) (fun M2 v1 hE2 hT3 hv1 => ?_)
    have f24 : mset M2 70 (3 * l.length) v1 57 24 = nI l.length := by rw [mset_ne (by decide), hE2 57 24 (by omega)]; exact h24
    refine g_iast_n dX10_calendar_54 (by first | rfl | assumption) (by first | decide | assumption) (by omega) (by omega) ?_
    refine g_aload_n dX10_calendar_55 rfl ?_
    refine g_getr (j := 23) dX10_calendar_56 gc10 rfl (by decide) rfl (by decide) fl_M_47 ?_
    refine g_iconst (nI 3) dX10_calendar_59 ki_3 ?_
    refine g_aload_n dX10_calendar_60 rfl ?_
    refine g_geti (j := 24) dX10_calendar_61 gc10 rfl (by decide) rfl (by decide) fl_M_270 ?_
    try simp (disch := omega) only [f24]
    first | refine g_imul_n dX10_calendar_64 ?_ | refine g_imul dX10_calendar_64 ?_
    refine g_iconst (nI 1) dX10_calendar_65 ki_1 ?_
    first | refine g_iadd_n dX10_calendar_66 ?_ | refine g_iadd dX10_calendar_66 ?_
    refine g_aload_n dX10_calendar_67 rfl ?_
    refine g_call0 dX10_calendar_68 clM_kindLetter ml_M_279 gc10 rfl rfl (by decide) (Nat.le_of_ble_eq_true rfl) ?_
    refine SM_kindLetter (hT3.off (mset_ne (by decide)) (fun j hj => by rw [mset_ne (by decide)])) ⟨fun j hj => by rw [mset_ne (by decide), hE2.row (by decide)]; exact hC2.1 j hj, fun j hj => by rw [mset_ne (by decide), hE2.row (by decide)]; exact hC2.2 j hj⟩ (fun M3 hE3 hT4 => ?_)
    have g24 : M3 57 24 = nI l.length := by rw [hE3 57 24 (by omega)]; exact f24
    generalize hk0 : (if kdV n t (nuS n t 0 365 q) = 4 then nI 0 else nI (kdV n t (nuS n t 0 365 q))) = w0
    refine g_iast_n dX10_calendar_71 (by first | rfl | assumption) (by first | decide | assumption) (by omega) (by omega) ?_
    refine g_aload_n dX10_calendar_72 rfl ?_
    refine g_dup dX10_calendar_73 rfl ?_
    refine g_geti (j := 24) dX10_calendar_74 gc10 rfl (by decide) rfl (by decide) fl_M_270 ?_
    try simp (disch := omega) only [mset_ne, g24]
    refine g_iconst (nI 1) dX10_calendar_77 ki_1 ?_
    first | refine g_iadd_n dX10_calendar_78 ?_ | refine g_iadd dX10_calendar_78 ?_
    refine g_puti (j := 24) dX10_calendar_79 gc10 rfl (by decide) rfl (by decide) fl_M_270 rfl (tyX10_ok 24 (by decide)) (by first | rfl | exact nar_bI _) rfl ?_
    refine g_aload_n dX10_calendar_82 rfl ?_
    refine g_bipush (nI 59) dX10_calendar_83 kb_59 ?_
    refine g_call1 dX10_calendar_85 clM_takes ml_M_257 gc10 rfl rfl (by decide) (Nat.le_of_ble_eq_true rfl) ?_
    generalize hM5 : mset (mset M3 70 (3 * l.length + 1) w0) 57 24 (nI (l.length + 1)) = M5
    have hT5 : TM n t M5 (caP n t q).1 := by
      rw [← hM5]
      exact (hT4.off (mset_ne (by decide)) (fun j hj => by rw [mset_ne (by decide)])).off (mset_ne (by decide)) (fun j hj => mset_off (by omega))
    have hE5 : EqQ [70] M M5 := by
      rw [← hM5]
      exact (((hE.tr (hE2.q.sub (by simp))).tr (EqQ.set (by decide))).tr (hE3.q.sub (by simp))).tr ((EqQ.set (by decide)).tr (EqQ.set57 (by omega)))
    have e24 : M5 57 24 = nI (l.length + 1) := by rw [← hM5, mset_at]
    have e70 : M5 70 = upd (upd (M' 70) (3 * l.length) v1) (3 * l.length + 1) w0 := by rw [← hM5, mset_ne (by decide), mset_same, hE3.row (by decide), mset_same, hE2.row (by decide)]
    have hR5 : okB (caP n t q).1 = true → CWm M5 (l ++ [(caP n t q).2]) := fun z => by
      refine hR.app (fun j hj => ?_) ?_
      · rw [e70, upd_off (by omega), upd_off (by omega)]
      · rw [e70, upd_off (by omega), upd_at, upd_at]
        have := (caP_ok z).2.2
        have hkd : kdV n t (nuS n t 0 365 q) < 4 := this
        refine ⟨hv1 (caP_ok z).1, ?_⟩
        rw [← hk0, if_neg (by omega)]
        rfl
    clear hM5
    refine SM_takes (c := 59) (by omega) hT5 (fun M6 hE6 hT6 => ?_)
    have hE7 : EqQ [70] M M6 := hE5.tr (hE6.q.sub (by simp))
    have e24' : M6 57 24 = nI (l ++ [(caP n t q).2]).length := by
      rw [hE6 57 24 (by omega), e24]
      simp
    have hR6 : okB (caP n t q).1 = true → CWm M6 (l ++ [(caP n t q).2]) := fun z => (hR5 z).off (hE6.row (by decide))
    by_cases c : tk n t 59 (caP n t q).1 = true
    · rw [if_pos c] at hq
      rw [c]
      refine g_if_ne_tt 9 dX10_calendar_88 (by decide) ?_
      exact ih _ _ M6 (by simp; omega) hE7 hT6 e24' (hR6 (tk_ok c)) hq
    · rw [if_neg c] at hq
      have c := Bool.eq_false_iff.mpr c
      rw [tkS_f c] at hT6
      rw [c]
      refine g_if_ne_ff 9 dX10_calendar_88 (by decide) ?_
      exact htail _ _ M6 hE7 hT6 e24' hq (fun z => hR6 (ok_en z).1)
theorem both_calendar : Both mF_calendar mM_calendar [] := both_text f_calendar (fun M S n t Q => SF_calendar M S n t Q) (fun M S n t Q => SM_calendar M S n t Q) (fun S n t hn ht hW hH => by
  unfold f_calendar
  dsimp only
  split
  · exact adC_HM hH _ _
  · exact hH)
