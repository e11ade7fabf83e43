/-! rules in the reference -/
theorem upd_self (f : Nat → Int32) (j : Nat) : upd f j (f j) = f := by
  funext i
  by_cases e : i = j
  · subst e; rw [upd_at]
  · rw [upd_off e]
def RWm1 (M : Mm) (i : Nat) (x : RU) : Prop := M 70 (3 * i) = nI x.1 ∧ M 70 (3 * i + 1) = nI x.2.1 ∧ (x.1 ≠ 1 → M 70 (3 * i + 2) = nI x.2.2)
theorem SM_readsRuleF {d : Nat} {n : Nat} {t : Nat → Nat} {M : Mm} {Q : Po} {i r : Nat} {q : TS} (hr : r ≤ i) (hi : i < 100) (hT : TM n t M q) (h24 : M 57 24 = nI i) (h : ∀ M', EqT M M' → TM n t M' (flA q) → Q M' none) : Call (d + 4) mM_readsRule [.ref 57, .int (nI r)] M Q := by
  refine Call_of (m := mM_readsRule) [some (.ref 57), some (.int (nI r)), none] rfl (fun G => Nat.le_of_ble_eq_true rfl) (fun G => rfl) ?_
  refine g_aload_n dX10_readsRule_0 rfl ?_
  refine g_geti (j := 24) dX10_readsRule_1 gc10 rfl (by decide) rfl (by decide) fl_M_270 ?_
  try simp (disch := omega) only [h24]
  refine g_iload_n dX10_readsRule_4 rfl ?_
  refine g_icmp_lt_n 17 dX10_readsRule_5 (by decide) (by omega) (by omega) (fun c5 => ?_) (fun c5 => ?_)
  · exact absurd hr (by omega)
  · refine g_aload_n dX10_readsRule_8 rfl ?_
    refine g_aload_n dX10_readsRule_9 rfl ?_
    refine g_geti (j := 20) dX10_readsRule_10 gc10 rfl (by decide) rfl (by decide) fl_M_251 ?_
    try simp (disch := omega) only [h24]
    refine g_call1 dX10_readsRule_13 clM_faults ml_M_260 gc10 rfl rfl (by decide) (Nat.le_of_ble_eq_true rfl) ?_
    refine SM_faultsA hT rfl (fun M1 hE1 hT1 => ?_)
    refine g_return dX10_readsRule_16 rfl ?_
    exact h M1 hE1 hT1
theorem SM_readsRule {d : Nat} {n : Nat} {t : Nat → Nat} {M : Mm} {Q : Po} {i r : Nat} {q : TS} (hi : i < r) (hr : r ≤ 8) (hT : TM n t M q) (hC : MC M) (h24 : M 57 24 = nI i) (h : ∀ M', EqQ [70] M M' → TM n t M' (ruP n t q).1 → M' 57 24 = nI (i + 1) → (∀ j, j < 3 * i → M' 70 j = M 70 j) → (okB (ruP n t q).1 = true → RWm1 M' i (ruP n t q).2) → Q M' none) : Call (d + 4) mM_readsRule [.ref 57, .int (nI r)] M Q := by
  have hfin : ∀ (M' : Mm) (x y z : Int32), EqQ [70] M M' → M' 57 24 = nI i → TM n t M' (ruP n t q).1 → M' 70 = upd (upd (upd (M 70) (3 * i) x) (3 * i + 1) y) (3 * i + 2) z → (okB (ruP n t q).1 = true → x = nI (ruP n t q).2.1 ∧ y = nI (ruP n t q).2.2.1 ∧ ((ruP n t q).2.1 ≠ 1 → z = nI (ruP n t q).2.2.2)) → Go mM_readsRule (d + 4) Q 176 [some (.ref 57), some (.int (nI r)), some (.int (nI (3 * i)))] [] M' := by
    intro M' x y z hE h24' hT' h70 hv
    refine g_aload_n dX10_readsRule_176 rfl ?_
    refine g_dup dX10_readsRule_177 rfl ?_
    refine g_geti (j := 24) dX10_readsRule_178 gc10 rfl (by decide) rfl (by decide) fl_M_270 ?_
    try simp (disch := omega) only [h24']
    refine g_iconst (nI 1) dX10_readsRule_181 ki_1 ?_
    first | refine g_iadd_n dX10_readsRule_182 ?_ | refine g_iadd dX10_readsRule_182 ?_
    refine g_puti (j := 24) dX10_readsRule_183 gc10 rfl (by decide) rfl (by decide) fl_M_270 rfl (tyX10_ok 24 (by decide)) (by first | rfl | exact nar_bI _) rfl ?_
    refine g_return dX10_readsRule_186 rfl ?_
    refine h _ (hE.tr (EqQ.set57 (by omega))) (hT'.off (mset_ne (by decide)) (fun j hj => mset_off (by omega))) (mset_at _ _ _ _) (fun j hj => ?_) (fun hok => ?_)
    · rw [mset_ne (by decide), h70, upd_off (by omega), upd_off (by omega), upd_off (by omega)]
    · obtain ⟨v1, v2, v3⟩ := hv hok
      unfold RWm1
      rw [mset_ne (by decide), h70]
      refine ⟨?_, ?_, fun z1 => ?_⟩
      · rw [upd_off (by omega), upd_off (by omega), upd_at]; exact v1
      · rw [upd_off (by omega), upd_at]; exact v2
      · rw [upd_at]; exact v3 z1
  clear h
  refine Call_of (m := mM_readsRule) [some (.ref 57), some (.int (nI r)), none] rfl (fun G => Nat.le_of_ble_eq_true rfl) (fun G => rfl) ?_
  refine g_aload_n dX10_readsRule_0 rfl ?_
  refine g_geti (j := 24) dX10_readsRule_1 gc10 rfl (by decide) rfl (by decide) fl_M_270 ?_
  try simp (disch := omega) only [h24]
  refine g_iload_n dX10_readsRule_4 rfl ?_
  refine g_icmp_lt_n 17 dX10_readsRule_5 (by decide) (by omega) (by omega) (fun c5 => ?_) (fun c5 => ?_)
  rotate_left
  · exact absurd hi c5
  refine g_iconst (nI 3) dX10_readsRule_17 ki_3 ?_
  refine g_aload_n dX10_readsRule_18 rfl ?_
  refine g_geti (j := 24) dX10_readsRule_19 gc10 rfl (by decide) rfl (by decide) fl_M_270 ?_
  try simp (disch := omega) only [h24]
  first | refine g_imul_n dX10_readsRule_22 ?_ | refine g_imul dX10_readsRule_22 ?_
  refine g_ist3_2 dX10_readsRule_23 (by decide) rfl ?_
  refine g_aload_n dX10_readsRule_24 rfl ?_
  refine g_bipush (nI 100) dX10_readsRule_25 kb_100 ?_
  refine g_call1 dX10_readsRule_27 clM_takes ml_M_257 gc10 rfl rfl (by decide) (Nat.le_of_ble_eq_true rfl) ?_
  refine SM_takes (c := 100) (by omega) hT (fun M1 hE1 hT1 => ?_)
  by_cases c1 : tk n t 100 q = true
  · rw [ruP_d c1] at hfin
    dsimp only at hfin
    rw [c1]
    refine g_if_eq_tt 88 dX10_readsRule_30 (by decide) ?_
    refine g_aload_n dX10_readsRule_33 rfl ?_
    refine g_getr (j := 23) dX10_readsRule_34 gc10 rfl (by decide) rfl (by decide) fl_M_47 ?_
    refine g_iload_n dX10_readsRule_37 rfl ?_
    refine g_iconst (nI 0) dX10_readsRule_38 ki_0 ?_
    refine g_iast_n dX10_readsRule_39 (by first | rfl | assumption) (by first | decide | assumption) (by omega) (by omega) ?_
    refine g_aload_n dX10_readsRule_40 rfl ?_
    refine g_getr (j := 23) dX10_readsRule_41 gc10 rfl (by decide) rfl (by decide) fl_M_47 ?_
    refine g_iload_n dX10_readsRule_44 rfl ?_
    refine g_iconst (nI 1) dX10_readsRule_45 ki_1 ?_
    first | refine g_iadd_n dX10_readsRule_46 ?_ | refine g_iadd dX10_readsRule_46 ?_
    refine g_aload_n dX10_readsRule_47 rfl ?_
    refine g_iconst (nI 0) dX10_readsRule_48 ki_0 ?_
    refine g_sipush (nI 365) dX10_readsRule_49 ks_365 ?_
    refine g_call2 dX10_readsRule_52 clM_number ml_M_273 gc10 rfl rfl (by decide) (Nat.le_of_ble_eq_true rfl) ?_
    refine SM_number (lo := 0) (hi := 365) (hT1.off (mset_ne (by decide)) (fun j hj => by rw [mset_ne (by decide)])) (fun _ => ⟨rfl, rfl⟩) (by omega) (by omega) (fun M2 v1 hE2 hT2 hv1 => ?_)
    refine g_iast_n dX10_readsRule_55 (by first | rfl | assumption) (by first | decide | assumption) (by omega) (by omega) ?_
    refine g_aload_n dX10_readsRule_56 rfl ?_
    refine g_bipush (nI 45) dX10_readsRule_57 kb_45 ?_
    refine g_call1 dX10_readsRule_59 clM_must ml_M_276 gc10 rfl rfl (by decide) (Nat.le_of_ble_eq_true rfl) ?_
    refine SM_must (c := 45) (by omega) (hT2.off (mset_ne (by decide)) (fun j hj => by rw [mset_ne (by decide)])) (fun M3 hE3 hT3 => ?_)
    have e45 : M3 70 (3 * i + 1) = v1 := by rw [hE3.row (by decide), mset_at]
    refine g_aload_n dX10_readsRule_62 rfl ?_
    refine g_getr (j := 23) dX10_readsRule_63 gc10 rfl (by decide) rfl (by decide) fl_M_47 ?_
    refine g_iload_n dX10_readsRule_66 rfl ?_
    refine g_iconst (nI 2) dX10_readsRule_67 ki_2 ?_
    first | refine g_iadd_n dX10_readsRule_68 ?_ | refine g_iadd dX10_readsRule_68 ?_
    refine g_aload_n dX10_readsRule_69 rfl ?_
    refine g_aload_n dX10_readsRule_70 rfl ?_
    refine g_getr (j := 23) dX10_readsRule_71 gc10 rfl (by decide) rfl (by decide) fl_M_47 ?_
    refine g_iload_n dX10_readsRule_74 rfl ?_
    refine g_iconst (nI 1) dX10_readsRule_75 ki_1 ?_
    first | refine g_iadd_n dX10_readsRule_76 ?_ | refine g_iadd dX10_readsRule_76 ?_
    refine g_iald_n dX10_readsRule_77 (by first | rfl | assumption) (by first | decide | assumption) (by omega) (by omega) ?_
    try simp (disch := omega) only [e45]
    refine g_sipush (nI 365) dX10_readsRule_78 ks_365 ?_
    refine g_call2 dX10_readsRule_81 clM_number ml_M_273 gc10 rfl rfl (by decide) (Nat.le_of_ble_eq_true rfl) ?_
    refine SM_number (lo := nuV n t (tkS n t 100 q)) (hi := 365) hT3 (fun hok => ⟨hv1 (ok_nu (ok_mu hok)).1, rfl⟩) (nuV_lt n t _) (by omega) (fun M4 v2 hE4 hT4 hv2 => ?_)
    refine g_iast_n dX10_readsRule_84 (by first | rfl | assumption) (by first | decide | assumption) (by omega) (by omega) ?_
    refine g_goto 176 dX10_readsRule_85 (by decide) ?_
    refine hfin _ (nI 0) v1 v2 ?_ ?_ (hT4.off (mset_ne (by decide)) (fun j hj => by rw [mset_ne (by decide)])) ?_ (fun hok => ⟨rfl, hv1 (ok_nu (ok_mu (ok_nu hok).1)).1, fun _ => hv2 (ok_nu hok).1⟩)
    · exact (((hE1.q.sub (by simp)).tr (EqQ.set (by decide))).tr ((hE2.q.sub (by simp)).tr (EqQ.set (by decide)))).tr ((hE3.q.sub (by simp)).tr ((hE4.q.sub (by simp)).tr (EqQ.set (by decide))))
    · rw [mset_ne (by decide), hE4 57 24 (by omega), hE3 57 24 (by omega), mset_ne (by decide), hE2 57 24 (by omega), mset_ne (by decide), hE1 57 24 (by omega)]; exact h24
    · rw [mset_same, hE4.row (by decide), hE3.row (by decide), mset_same, hE2.row (by decide), mset_same, hE1.row (by decide)]
  · have c1 := Bool.eq_false_iff.mpr c1
    rw [c1]
    rw [tkS_f c1] at hT1
    refine g_if_eq_ff 88 dX10_readsRule_30 (by decide) ?_
    refine g_aload_n dX10_readsRule_88 rfl ?_
    refine g_bipush (nI 107) dX10_readsRule_89 kb_107 ?_
    refine g_call1 dX10_readsRule_91 clM_takes ml_M_257 gc10 rfl rfl (by decide) (Nat.le_of_ble_eq_true rfl) ?_
    refine SM_takes (c := 107) (by omega) hT1 (fun M2 hE2 hT2 => ?_)
    by_cases c2 : tk n t 107 q = true
    · rw [ruP_k c1 c2] at hfin
      dsimp only at hfin
      rw [c2]
      refine g_if_eq_tt 119 dX10_readsRule_94 (by decide) ?_
      refine g_aload_n dX10_readsRule_97 rfl ?_
      refine g_getr (j := 23) dX10_readsRule_98 gc10 rfl (by decide) rfl (by decide) fl_M_47 ?_
      refine g_iload_n dX10_readsRule_101 rfl ?_
      refine g_iconst (nI 1) dX10_readsRule_102 ki_1 ?_
      refine g_iast_n dX10_readsRule_103 (by first | rfl | assumption) (by first | decide | assumption) (by omega) (by omega) ?_
      refine g_aload_n dX10_readsRule_104 rfl ?_
      refine g_getr (j := 23) dX10_readsRule_105 gc10 rfl (by decide) rfl (by decide) fl_M_47 ?_
      refine g_iload_n dX10_readsRule_108 rfl ?_
      refine g_iconst (nI 1) dX10_readsRule_109 ki_1 ?_
      first | refine g_iadd_n dX10_readsRule_110 ?_ | refine g_iadd dX10_readsRule_110 ?_
      refine g_aload_n dX10_readsRule_111 rfl ?_
      refine g_call0 dX10_readsRule_112 clM_kindLetter ml_M_279 gc10 rfl rfl (by decide) (Nat.le_of_ble_eq_true rfl) ?_
      refine SM_kindLetter (hT2.off (mset_ne (by decide)) (fun j hj => by rw [mset_ne (by decide)])) ⟨fun j hj => by rw [mset_ne (by decide), hE2.row (by decide), hE1.row (by decide)]; exact hC.1 j hj, fun j hj => by rw [mset_ne (by decide), hE2.row (by decide), hE1.row (by decide)]; exact hC.2 j hj⟩ (fun M3 hE3 hT3 => ?_)
      refine g_iast_n dX10_readsRule_115 (by first | rfl | assumption) (by first | decide | assumption) (by omega) (by omega) ?_
      refine g_goto 176 dX10_readsRule_116 (by decide) ?_
      refine hfin _ (nI 1) (if kdV n t (tkS n t 107 q) = 4 then nI 0 else nI (kdV n t (tkS n t 107 q))) (upd (upd (M 70) (3 * i) (nI 1)) (3 * i + 1) (if kdV n t (tkS n t 107 q) = 4 then nI 0 else nI (kdV n t (tkS n t 107 q))) (3 * i + 2)) ?_ ?_ (hT3.off (mset_ne (by decide)) (fun j hj => by rw [mset_ne (by decide)])) (Eq.trans ?_ (upd_self _ _).symm) (fun hok => ⟨rfl, ?_, fun z => absurd rfl z⟩)
      · exact ((hE1.q.sub (by simp)).tr (hE2.q.sub (by simp))).tr ((EqQ.set (by decide)).tr ((hE3.q.sub (by simp)).tr (EqQ.set (by decide))))
      · rw [mset_ne (by decide), hE3 57 24 (by omega), mset_ne (by decide), hE2 57 24 (by omega), hE1 57 24 (by omega)]; exact h24
      · rw [mset_same, hE3.row (by decide), mset_same, hE2.row (by decide), hE1.row (by decide)]
      · rw [if_neg (by have := (ok_kd hok).2; omega)]
    · have c2 := Bool.eq_false_iff.mpr c2
      rw [ruP_r c1 c2] at hfin
      dsimp only at hfin
      rw [c2]
      rw [tkS_f c2] at hT2
      refine g_if_eq_ff 119 dX10_readsRule_94 (by decide) ?_
      refine g_aload_n dX10_readsRule_119 rfl ?_
      refine g_bipush (nI 114) dX10_readsRule_120 kb_114 ?_
      refine g_call1 dX10_readsRule_122 clM_must ml_M_276 gc10 rfl rfl (by decide) (Nat.le_of_ble_eq_true rfl) ?_
      refine SM_must (c := 114) (by omega) hT2 (fun M3 hE3 hT3 => ?_)
      refine g_aload_n dX10_readsRule_125 rfl ?_
      refine g_getr (j := 23) dX10_readsRule_126 gc10 rfl (by decide) rfl (by decide) fl_M_47 ?_
      refine g_iload_n dX10_readsRule_129 rfl ?_
      refine g_iconst (nI 2) dX10_readsRule_130 ki_2 ?_
      refine g_iast_n dX10_readsRule_131 (by first | rfl | assumption) (by first | decide | assumption) (by omega) (by omega) ?_
      refine g_aload_n dX10_readsRule_132 rfl ?_
      refine g_getr (j := 23) dX10_readsRule_133 gc10 rfl (by decide) rfl (by decide) fl_M_47 ?_
      refine g_iload_n dX10_readsRule_136 rfl ?_
      refine g_iconst (nI 1) dX10_readsRule_137 ki_1 ?_
      first | refine g_iadd_n dX10_readsRule_138 ?_ | refine g_iadd dX10_readsRule_138 ?_
      refine g_aload_n dX10_readsRule_139 rfl ?_
      refine g_iconst (nI 2) dX10_readsRule_140 ki_2 ?_
      refine g_bipush (nI 9) dX10_readsRule_141 kb_9 ?_
      refine g_call2 dX10_readsRule_143 clM_number ml_M_273 gc10 rfl rfl (by decide) (Nat.le_of_ble_eq_true rfl) ?_
      refine SM_number (lo := 2) (hi := 9) (hT3.off (mset_ne (by decide)) (fun j hj => by rw [mset_ne (by decide)])) (fun _ => ⟨rfl, rfl⟩) (by omega) (by omega) (fun M4 v1 hE4 hT4 hv1 => ?_)
      refine g_iast_n dX10_readsRule_146 (by first | rfl | assumption) (by first | decide | assumption) (by omega) (by omega) ?_
      refine g_aload_n dX10_readsRule_147 rfl ?_
      refine g_bipush (nI 58) dX10_readsRule_148 kb_58 ?_
      refine g_call1 dX10_readsRule_150 clM_must ml_M_276 gc10 rfl rfl (by decide) (Nat.le_of_ble_eq_true rfl) ?_
      refine SM_must (c := 58) (by omega) (hT4.off (mset_ne (by decide)) (fun j hj => by rw [mset_ne (by decide)])) (fun M5 hE5 hT5 => ?_)
      have e45 : M5 70 (3 * i + 1) = v1 := by rw [hE5.row (by decide), mset_at]
      refine g_aload_n dX10_readsRule_153 rfl ?_
      refine g_getr (j := 23) dX10_readsRule_154 gc10 rfl (by decide) rfl (by decide) fl_M_47 ?_
      refine g_iload_n dX10_readsRule_157 rfl ?_
      refine g_iconst (nI 2) dX10_readsRule_158 ki_2 ?_
      first | refine g_iadd_n dX10_readsRule_159 ?_ | refine g_iadd dX10_readsRule_159 ?_
      refine g_aload_n dX10_readsRule_160 rfl ?_
      refine g_iconst (nI 0) dX10_readsRule_161 ki_0 ?_
      refine g_aload_n dX10_readsRule_162 rfl ?_
      refine g_getr (j := 23) dX10_readsRule_163 gc10 rfl (by decide) rfl (by decide) fl_M_47 ?_
      refine g_iload_n dX10_readsRule_166 rfl ?_
      refine g_iconst (nI 1) dX10_readsRule_167 ki_1 ?_
      first | refine g_iadd_n dX10_readsRule_168 ?_ | refine g_iadd dX10_readsRule_168 ?_
      refine g_iald_n dX10_readsRule_169 (by first | rfl | assumption) (by first | decide | assumption) (by omega) (by omega) ?_
      try simp (disch := omega) only [e45]
      refine g_iconst (nI 1) dX10_readsRule_170 ki_1 ?_
      refine g_isub dX10_readsRule_171 ?_
      refine g_call2 dX10_readsRule_172 clM_number ml_M_273 gc10 rfl rfl (by decide) (Nat.le_of_ble_eq_true rfl) ?_
      have hlt := nuV_lt n t (mu n t 114 q)
      refine SM_number (lo := 0) (hi := nuV n t (mu n t 114 q) - 1) hT5 (fun hok => ⟨rfl, ?_⟩) (by omega) (by omega) (fun M6 v2 hE6 hT6 hv2 => ?_)
      · obtain ⟨g1, g2, g3⟩ := ok_nu (ok_mu hok)
        rw [hv1 g1, nI_sub (by omega)]
      refine g_iast_n dX10_readsRule_175 (by first | rfl | assumption) (by first | decide | assumption) (by omega) (by omega) ?_
      refine hfin _ (nI 2) v1 v2 ?_ ?_ (hT6.off (mset_ne (by decide)) (fun j hj => by rw [mset_ne (by decide)])) ?_ (fun hok => ⟨rfl, hv1 (ok_nu (ok_mu (ok_nu hok).1)).1, fun _ => hv2 (ok_nu hok).1⟩)
      · exact ((((hE1.q.sub (by simp)).tr (hE2.q.sub (by simp))).tr ((hE3.q.sub (by simp)).tr (EqQ.set (by decide)))).tr ((hE4.q.sub (by simp)).tr (EqQ.set (by decide)))).tr ((hE5.q.sub (by simp)).tr ((hE6.q.sub (by simp)).tr (EqQ.set (by decide))))
      · rw [mset_ne (by decide), hE6 57 24 (by omega), hE5 57 24 (by omega), mset_ne (by decide), hE4 57 24 (by omega), mset_ne (by decide), hE3 57 24 (by omega), hE2 57 24 (by omega), hE1 57 24 (by omega)]; exact h24
      · rw [mset_same, hE6.row (by decide), hE5.row (by decide), mset_same, hE4.row (by decide), mset_same, hE3.row (by decide), hE2.row (by decide), hE1.row (by decide)]
theorem MKadR {w w' : Nat → Int32} {S : BS} (hM : MK w S) {p : Nat} {f : Nat → RU} {k : Nat} (hp : p < S 0 0 0) (hk : S 6 p 0 + k ≤ 8) (hv : ∀ j, j < k → ruOK (f j)) (h6 : w' (51 + p) = nI (S 6 p 0 + k)) (h7 : ∀ j, j < k → w' (59 + 24 * p + 3 * (S 6 p 0 + j)) = nI (f j).1 ∧ w' (59 + 24 * p + 3 * (S 6 p 0 + j) + 1) = nI (f j).2.1 ∧ ((f j).1 ≠ 1 → w' (59 + 24 * p + 3 * (S 6 p 0 + j) + 2) = nI (f j).2.2))
    (hkp : ∀ j, j ≠ 51 + p → ¬ (59 + 24 * p + 3 * S 6 p 0 ≤ j ∧ j < 59 + 24 * p + 3 * (S 6 p 0 + k)) → w' j = w j) : MK w' (adR S p f k) := by
  have o := fun (a : Nat) (h : ¬ (6 ≤ a ∧ a ≤ 9)) => adR_oth (S := S) (p := p) (f := f) (k := k) h
  have hnp := hM.wf.np
  have hnd := hM.wf.nd
  have hnr8 := fun q (hq : q < S 0 0 0) => hM.wf.nr (p := q) (by omega)
  refine ⟨adR_wf hM.wf hp hk hv, ?_, ?_, ?_, fun q hq => ?_, fun q j hq hj => ?_, fun q r hq hr => ?_, fun d hd => ?_, fun q d hq hd => ?_, ?_⟩
  · rw [hkp 0 (by omega) (by omega), o 0 (by omega)]; exact hM.np
  · rw [hkp 1 (by omega) (by omega), o 2 (by omega)]; exact hM.yr
  · rw [hkp 2 (by omega) (by omega), o 1 (by omega)]; exact hM.nd
  · rw [o 0 (by omega)] at hq
    rw [hkp (3 + q) (by omega) (by omega), hkp (11 + q) (by omega) (by omega), o 4 (by omega), o 3 (by omega)]
    refine ⟨hM.hN hq, hM.rk hq, ?_⟩
    by_cases e : q = p
    · subst e; rw [adR_6]; exact h6
    · rw [adR_off e, hkp _ (by omega) (by omega)]; exact hM.nr hq
  · rw [o 0 (by omega)] at hq
    rw [hkp _ (by omega) (by omega), o 5 (by omega)]; exact hM.ps hq hj
  · rw [o 0 (by omega)] at hq
    have hq8 := hnr8 q hq
    by_cases e : q = p
    · subst e
      rw [adR_6] at hr
      by_cases z : S 6 q 0 ≤ r ∧ r < S 6 q 0 + k
      · rw [adR_7 z, adR_8 z, adR_9 z]
        have y := h7 (r - S 6 q 0) (by omega)
        rw [show S 6 q 0 + (r - S 6 q 0) = r by omega] at y
        exact y
      · rw [adR_old (by decide) z, adR_old (by decide) z, adR_old (by decide) z, hkp (59 + 24 * q + 3 * r) (by omega) (by omega), hkp (59 + 24 * q + 3 * r + 1) (by omega) (by omega), hkp (59 + 24 * q + 3 * r + 2) (by omega) (by omega)]
        exact ⟨hM.rs hq (by omega), hM.ra hq (by omega), hM.rb hq (by omega)⟩
    · rw [adR_off e] at hr
      have hr8 : r < 8 := by omega
      rw [adR_off e, adR_off e, adR_off e, hkp (59 + 24 * q + 3 * r) (by omega) (by omega), hkp (59 + 24 * q + 3 * r + 1) (by omega) (by omega), hkp (59 + 24 * q + 3 * r + 2) (by omega) (by omega)]
      exact ⟨hM.rs hq hr, hM.ra hq hr, hM.rb hq hr⟩
  · rw [o 1 (by omega)] at hd
    rw [hkp _ (by omega) (by omega), hkp _ (by omega) (by omega), hkp _ (by omega) (by omega), o 10 (by omega), o 11 (by omega), o 12 (by omega)]
    exact ⟨hM.dy hd, hM.kd hd, hM.ho hd⟩
  · rw [o 0 (by omega)] at hq
    rw [o 1 (by omega)] at hd
    rw [hkp _ (by omega) (by omega), o 13 (by omega)]; exact hM.dl hq hd
  · rw [o 1 (by omega)]
    exact hM.mx.keep (fun j hj => hkp j (by omega) (by omega))
theorem opnI_HM {S : BS} (hH : HM S) {p : Nat} (hp : p < 8) : opnI S p (S 1 0 0) = S := by
  funext a b c
  unfold opnI
  by_cases z : a = 12 ∧ c = 0 ∧ b < S 1 0 0 ∧ S 12 b 0 = p ∧ mayB S p b = false
  · obtain ⟨z1, z2, z3, z4, z5⟩ := z
    have := hH b z3 (by omega)
    rw [z4, z5] at this
    cases this
  · rw [if_neg z]
def EqX (L : List Nat) (M M' : Mm) : Prop := ∀ k j, k ∉ L → (k = 57 → j = 2 ∨ j = 31) → M' k j = M k j
theorem EqX.tr {L : List Nat} {M M1 M2 : Mm} (h1 : EqX L M M1) (h2 : EqX L M1 M2) : EqX L M M2 := fun k j hk hj => (h2 k j hk hj).trans (h1 k j hk hj)
theorem EqX.sub {L L' : List Nat} {M M' : Mm} (h : EqX L M M') (hs : ∀ k ∈ L, k ∈ L') : EqX L' M M' := fun k j hk hj => h k j (fun e => hk (hs k e)) hj
theorem EqX.ofQ {L : List Nat} {M M' : Mm} (h : EqQ L M M') : EqX L M M' := fun k j hk hj => h k j hk (fun e => by have := hj e; omega)
theorem EqX.ofO {L : List Nat} {M M' : Mm} (h : EqO L M M') : EqX L M M' := EqX.ofQ (EqQ.ofO h)
theorem EqX.ofC {L : List Nat} {M M' : Mm} (h : ∀ k j, ¬ (k = 57 ∧ (j = 19 ∨ j = 20 ∨ j = 21 ∨ j = 22)) → M' k j = M k j) : EqX L M M' := fun k j _ hj => h k j (fun z => by have := hj z.1; omega)
theorem FxM.ofX {L : List Nat} {M M' : Mm} (h : EqX L M M') (hL : ∀ k ∈ L, k ∈ LM) : FxM M M' := fun k j hk => by
  refine h k j (fun e => ?_) (fun e => ?_)
  · have := LM_in (hL k e)
    unfold okO at hk
    omega
  · unfold okO at hk
    omega
