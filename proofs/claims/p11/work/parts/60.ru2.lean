/-! RULES in the class -/
theorem ruP_d {n : Nat} {t : Nat → Nat} {q : TS} (c1 : tk n t 100 q = true) : ruP n t q = (nuS n t (nuV n t (tkS n t 100 q)) 365 (mu n t 45 (nuS n t 0 365 (tkS n t 100 q))), (0, nuV n t (tkS n t 100 q), nuV n t (mu n t 45 (nuS n t 0 365 (tkS n t 100 q))))) := by
  unfold ruP
  rw [if_pos c1]
theorem ruP_k {n : Nat} {t : Nat → Nat} {q : TS} (c1 : tk n t 100 q = false) (c2 : tk n t 107 q = true) : ruP n t q = (kdS n t (tkS n t 107 q), (1, kdV n t (tkS n t 107 q), 0)) := by
  unfold ruP
  rw [if_neg (by rw [c1]; decide), if_pos c2]
theorem ruP_r {n : Nat} {t : Nat → Nat} {q : TS} (c1 : tk n t 100 q = false) (c2 : tk n t 107 q = false) : ruP n t q = (nuS n t 0 (nuV n t (mu n t 114 q) - 1) (mu n t 58 (nuS n t 2 9 (mu n t 114 q))), (2, nuV n t (mu n t 114 q), nuV n t (mu n t 58 (nuS n t 2 9 (mu n t 114 q))))) := by
  unfold ruP
  rw [if_neg (by rw [c1]; decide), if_neg (by rw [c2]; decide)]
def RWc (M : Mm) (i : Nat) (x : RU) : Prop := M 44 i = nI x.1 ∧ M 45 i = nI x.2.1 ∧ M 46 i = nI x.2.2
theorem SX_readRule {d : Nat} {n : Nat} {t : Nat → Nat} {M : Mm} {Q : Po} {i : Nat} {q : TS} (hi : i < 8) (hT : TC n t M q) (h : ∀ M', EqO [41, 44, 45, 46] M M' → TC n t M' (ruP n t q).1 → (∀ j, j ≠ i → M' 44 j = M 44 j ∧ M' 45 j = M 45 j ∧ M' 46 j = M 46 j) → (okB (ruP n t q).1 = true → RWc M' i (ruP n t q).2) → Q M' none) : Call (d + 4) mX_readRule [.ref 43, .int (nI i)] M Q := by
  have hfin : ∀ (M' : Mm) (x y z : Int32), EqO [41, 44, 45, 46] M M' → TC n t M' (ruP n t q).1 → M' 44 = upd (M 44) i x → M' 45 = upd (M 45) i y → M' 46 = upd (M 46) i z → (okB (ruP n t q).1 = true → x = nI (ruP n t q).2.1 ∧ y = nI (ruP n t q).2.2.1 ∧ z = nI (ruP n t q).2.2.2) → Q M' none := by
    intro M' x y z hE hT' r1 r2 r3 hv
    refine h M' hE hT' (fun j hj => ?_) (fun hok => ?_)
    · rw [r1, r2, r3, upd_off hj, upd_off hj, upd_off hj]; exact ⟨rfl, rfl, rfl⟩
    · obtain ⟨v1, v2, v3⟩ := hv hok
      unfold RWc
      rw [r1, r2, r3, upd_at, upd_at, upd_at]
      exact ⟨v1, v2, v3⟩
  clear h
  refine Call_of (m := mX_readRule) [some (.ref 43), some (.int (nI i))] rfl (fun G => Nat.le_of_ble_eq_true rfl) (fun G => rfl) ?_
  refine g_iload_n dX8_readRule_0 rfl ?_
  refine g_if_lt_n 10 dX8_readRule_1 (by decide) (by omega) ?_
  refine g_iload_n dX8_readRule_4 rfl ?_
  refine g_bipush (nI 8) dX8_readRule_5 kb_8 ?_
  refine g_icmp_lt_n 11 dX8_readRule_7 (by decide) (by omega) (by omega) (fun c7 => ?_) (fun c7 => ?_)
  rotate_left
  · exact absurd hi c7
  refine g_aload_n dX8_readRule_11 rfl ?_
  refine g_getr (j := 1) dX8_readRule_12 gc8 rfl (by decide) rfl (by decide) fl_X_34 ?_
  refine g_bipush (nI 100) dX8_readRule_15 kb_100 ?_
  refine g_call1 dX8_readRule_17 clT_takesIf ml_X_71 gc7 rfl rfl (by decide) (Nat.le_of_ble_eq_true rfl) ?_
  refine ST_takesIf (c := 100) (by omega) hT (fun M1 hE1 hT1 => ?_)
  by_cases c1 : tk n t 100 q = true
  · rw [ruP_d c1] at hfin
    dsimp only at hfin
    rw [c1]
    refine g_if_eq_tt 81 dX8_readRule_20 (by decide) ?_
    refine g_aload_n dX8_readRule_23 rfl ?_
    refine g_getr (j := 2) dX8_readRule_24 gc8 rfl (by decide) rfl (by decide) fl_X_9 ?_
    refine g_iload_n dX8_readRule_27 rfl ?_
    refine g_iconst (nI 0) dX8_readRule_28 ki_0 ?_
    refine g_iast_n dX8_readRule_29 (by first | rfl | assumption) (by first | decide | assumption) (by omega) (by omega) ?_
    refine g_aload_n dX8_readRule_30 rfl ?_
    refine g_getr (j := 3) dX8_readRule_31 gc8 rfl (by decide) rfl (by decide) fl_X_15 ?_
    refine g_iload_n dX8_readRule_34 rfl ?_
    refine g_aload_n dX8_readRule_35 rfl ?_
    refine g_getr (j := 1) dX8_readRule_36 gc8 rfl (by decide) rfl (by decide) fl_X_34 ?_
    refine g_iconst (nI 0) dX8_readRule_39 ki_0 ?_
    refine g_sipush (nI 365) dX8_readRule_40 ks_365 ?_
    refine g_call2 dX8_readRule_43 clT_takeNumber ml_X_75 gc7 rfl rfl (by decide) (Nat.le_of_ble_eq_true rfl) ?_
    refine ST_takeNumber (lo := 0) (hi := 365) (hT1.off (mset_ne (by decide)) (mset_ne (by decide))) (fun _ => ⟨rfl, rfl⟩) (by omega) (by omega) (fun M2 v1 hE2 hT2 hv1 => ?_)
    refine g_iast_n dX8_readRule_46 (by first | rfl | assumption) (by first | decide | assumption) (by omega) (by omega) ?_
    refine g_aload_n dX8_readRule_47 rfl ?_
    refine g_getr (j := 1) dX8_readRule_48 gc8 rfl (by decide) rfl (by decide) fl_X_34 ?_
    refine g_bipush (nI 45) dX8_readRule_51 kb_45 ?_
    refine g_call1 dX8_readRule_53 clT_take ml_X_79 gc7 rfl rfl (by decide) (Nat.le_of_ble_eq_true rfl) ?_
    refine ST_take (c := 45) (by omega) (hT2.off (mset_ne (by decide)) (mset_ne (by decide))) (fun M3 hE3 hT3 => ?_)
    have e45 : M3 45 i = v1 := by rw [hE3 45 (by decide), mset_at]
    refine g_aload_n dX8_readRule_56 rfl ?_
    refine g_getr (j := 4) dX8_readRule_57 gc8 rfl (by decide) rfl (by decide) fl_X_18 ?_
    refine g_iload_n dX8_readRule_60 rfl ?_
    refine g_aload_n dX8_readRule_61 rfl ?_
    refine g_getr (j := 1) dX8_readRule_62 gc8 rfl (by decide) rfl (by decide) fl_X_34 ?_
    refine g_aload_n dX8_readRule_65 rfl ?_
    refine g_getr (j := 3) dX8_readRule_66 gc8 rfl (by decide) rfl (by decide) fl_X_15 ?_
    refine g_iload_n dX8_readRule_69 rfl ?_
    refine g_iald_n dX8_readRule_70 (by first | rfl | assumption) (by first | decide | assumption) (by omega) (by omega) ?_
    try simp (disch := omega) only [e45]
    refine g_sipush (nI 365) dX8_readRule_71 ks_365 ?_
    refine g_call2 dX8_readRule_74 clT_takeNumber ml_X_75 gc7 rfl rfl (by decide) (Nat.le_of_ble_eq_true rfl) ?_
    refine ST_takeNumber (lo := nuV n t (tkS n t 100 q)) (hi := 365) hT3 (fun hok => ⟨hv1 (ok_nu (ok_mu hok)).1, rfl⟩) (nuV_lt n t _) (by omega) (fun M4 v2 hE4 hT4 hv2 => ?_)
    refine g_iast_n dX8_readRule_77 (by first | rfl | assumption) (by first | decide | assumption) (by omega) (by omega) ?_
    refine g_goto 186 dX8_readRule_78 (by decide) ?_
    refine g_return dX8_readRule_186 rfl ?_
    refine hfin _ (nI 0) v1 v2 ((((((hE1.sub (by decide)).tr (EqO.set (by decide))).tr (hE2.sub (by decide))).tr (EqO.set (by decide))).tr (hE3.sub (by decide))).tr ((hE4.sub (by decide)).tr (EqO.set (by decide)))) (hT4.off (mset_ne (by decide)) (mset_ne (by decide))) ?_ ?_ ?_ (fun hok => ?_)
    · rw [mset_ne (by decide), hE4 44 (by decide), hE3 44 (by decide), mset_ne (by decide), hE2 44 (by decide), mset_same, hE1 44 (by decide)]
    · rw [mset_ne (by decide), hE4 45 (by decide), hE3 45 (by decide), mset_same, hE2 45 (by decide), mset_ne (by decide), hE1 45 (by decide)]
    · rw [mset_same, hE4 46 (by decide), hE3 46 (by decide), mset_ne (by decide), hE2 46 (by decide), mset_ne (by decide), hE1 46 (by decide)]
    · exact ⟨rfl, hv1 (ok_nu (ok_mu (ok_nu hok).1)).1, hv2 (ok_nu hok).1⟩
  · have c1 := Bool.eq_false_iff.mpr c1
    rw [c1]
    rw [tkS_f c1] at hT1
    refine g_if_eq_ff 81 dX8_readRule_20 (by decide) ?_
    refine g_aload_n dX8_readRule_81 rfl ?_
    refine g_getr (j := 1) dX8_readRule_82 gc8 rfl (by decide) rfl (by decide) fl_X_34 ?_
    refine g_bipush (nI 107) dX8_readRule_85 kb_107 ?_
    refine g_call1 dX8_readRule_87 clT_takesIf ml_X_71 gc7 rfl rfl (by decide) (Nat.le_of_ble_eq_true rfl) ?_
    refine ST_takesIf (c := 107) (by omega) hT1 (fun M2 hE2 hT2 => ?_)
    by_cases c2 : tk n t 107 q = true
    · rw [ruP_k c1 c2] at hfin
      dsimp only at hfin
      rw [c2]
      refine g_if_eq_tt 123 dX8_readRule_90 (by decide) ?_
      refine g_aload_n dX8_readRule_93 rfl ?_
      refine g_getr (j := 2) dX8_readRule_94 gc8 rfl (by decide) rfl (by decide) fl_X_9 ?_
      refine g_iload_n dX8_readRule_97 rfl ?_
      refine g_iconst (nI 1) dX8_readRule_98 ki_1 ?_
      refine g_iast_n dX8_readRule_99 (by first | rfl | assumption) (by first | decide | assumption) (by omega) (by omega) ?_
      refine g_aload_n dX8_readRule_100 rfl ?_
      refine g_getr (j := 3) dX8_readRule_101 gc8 rfl (by decide) rfl (by decide) fl_X_15 ?_
      refine g_iload_n dX8_readRule_104 rfl ?_
      refine g_aload_n dX8_readRule_105 rfl ?_
      refine g_getr (j := 1) dX8_readRule_106 gc8 rfl (by decide) rfl (by decide) fl_X_34 ?_
      refine g_call0 dX8_readRule_109 clT_takeKind ml_X_82 gc7 rfl rfl (by decide) (Nat.le_of_ble_eq_true rfl) ?_
      refine ST_takeKind (hT2.off (mset_ne (by decide)) (mset_ne (by decide))) (fun M3 hE3 hT3 => ?_)
      refine g_iast_n dX8_readRule_112 (by first | rfl | assumption) (by first | decide | assumption) (by omega) (by omega) ?_
      refine g_aload_n dX8_readRule_113 rfl ?_
      refine g_getr (j := 4) dX8_readRule_114 gc8 rfl (by decide) rfl (by decide) fl_X_18 ?_
      refine g_iload_n dX8_readRule_117 rfl ?_
      refine g_iconst (nI 0) dX8_readRule_118 ki_0 ?_
      refine g_iast_n dX8_readRule_119 (by first | rfl | assumption) (by first | decide | assumption) (by omega) (by omega) ?_
      refine g_goto 186 dX8_readRule_120 (by decide) ?_
      refine g_return dX8_readRule_186 rfl ?_
      refine hfin _ (nI 1) (kv (kdV n t (tkS n t 107 q))) (nI 0) ((((hE1.sub (by decide)).tr (hE2.sub (by decide))).tr (EqO.set (by decide))).tr (((hE3.sub (by decide)).tr (EqO.set (by decide))).tr (EqO.set (by decide)))) ((hT3.off (mset_ne (by decide)) (mset_ne (by decide))).off (mset_ne (by decide)) (mset_ne (by decide))) ?_ ?_ ?_ (fun hok => ⟨rfl, ?_, rfl⟩)
      · rw [mset_ne (by decide), mset_ne (by decide), hE3 44 (by decide), mset_same, hE2 44 (by decide), hE1 44 (by decide)]
      · rw [mset_ne (by decide), mset_same, hE3 45 (by decide), mset_ne (by decide), hE2 45 (by decide), hE1 45 (by decide)]
      · rw [mset_same, mset_ne (by decide), hE3 46 (by decide), mset_ne (by decide), hE2 46 (by decide), hE1 46 (by decide)]
      · unfold kv
        rw [if_neg (by have := (ok_kd hok).2; omega)]
    · have c2 := Bool.eq_false_iff.mpr c2
      rw [ruP_r c1 c2] at hfin
      dsimp only at hfin
      rw [c2]
      rw [tkS_f c2] at hT2
      refine g_if_eq_ff 123 dX8_readRule_90 (by decide) ?_
      refine g_aload_n dX8_readRule_123 rfl ?_
      refine g_getr (j := 1) dX8_readRule_124 gc8 rfl (by decide) rfl (by decide) fl_X_34 ?_
      refine g_bipush (nI 114) dX8_readRule_127 kb_114 ?_
      refine g_call1 dX8_readRule_129 clT_take ml_X_79 gc7 rfl rfl (by decide) (Nat.le_of_ble_eq_true rfl) ?_
      refine ST_take (c := 114) (by omega) hT2 (fun M3 hE3 hT3 => ?_)
      refine g_aload_n dX8_readRule_132 rfl ?_
      refine g_getr (j := 2) dX8_readRule_133 gc8 rfl (by decide) rfl (by decide) fl_X_9 ?_
      refine g_iload_n dX8_readRule_136 rfl ?_
      refine g_iconst (nI 2) dX8_readRule_137 ki_2 ?_
      refine g_iast_n dX8_readRule_138 (by first | rfl | assumption) (by first | decide | assumption) (by omega) (by omega) ?_
      refine g_aload_n dX8_readRule_139 rfl ?_
      refine g_getr (j := 3) dX8_readRule_140 gc8 rfl (by decide) rfl (by decide) fl_X_15 ?_
      refine g_iload_n dX8_readRule_143 rfl ?_
      refine g_aload_n dX8_readRule_144 rfl ?_
      refine g_getr (j := 1) dX8_readRule_145 gc8 rfl (by decide) rfl (by decide) fl_X_34 ?_
      refine g_iconst (nI 2) dX8_readRule_148 ki_2 ?_
      refine g_bipush (nI 9) dX8_readRule_149 kb_9 ?_
      refine g_call2 dX8_readRule_151 clT_takeNumber ml_X_75 gc7 rfl rfl (by decide) (Nat.le_of_ble_eq_true rfl) ?_
      refine ST_takeNumber (lo := 2) (hi := 9) (hT3.off (mset_ne (by decide)) (mset_ne (by decide))) (fun _ => ⟨rfl, rfl⟩) (by omega) (by omega) (fun M4 v1 hE4 hT4 hv1 => ?_)
      refine g_iast_n dX8_readRule_154 (by first | rfl | assumption) (by first | decide | assumption) (by omega) (by omega) ?_
      refine g_aload_n dX8_readRule_155 rfl ?_
      refine g_getr (j := 1) dX8_readRule_156 gc8 rfl (by decide) rfl (by decide) fl_X_34 ?_
      refine g_bipush (nI 58) dX8_readRule_159 kb_58 ?_
      refine g_call1 dX8_readRule_161 clT_take ml_X_79 gc7 rfl rfl (by decide) (Nat.le_of_ble_eq_true rfl) ?_
      refine ST_take (c := 58) (by omega) (hT4.off (mset_ne (by decide)) (mset_ne (by decide))) (fun M5 hE5 hT5 => ?_)
      have e45 : M5 45 i = v1 := by rw [hE5 45 (by decide), mset_at]
      refine g_aload_n dX8_readRule_164 rfl ?_
      refine g_getr (j := 4) dX8_readRule_165 gc8 rfl (by decide) rfl (by decide) fl_X_18 ?_
      refine g_iload_n dX8_readRule_168 rfl ?_
      refine g_aload_n dX8_readRule_169 rfl ?_
      refine g_getr (j := 1) dX8_readRule_170 gc8 rfl (by decide) rfl (by decide) fl_X_34 ?_
      refine g_iconst (nI 0) dX8_readRule_173 ki_0 ?_
      refine g_aload_n dX8_readRule_174 rfl ?_
      refine g_getr (j := 3) dX8_readRule_175 gc8 rfl (by decide) rfl (by decide) fl_X_15 ?_
      refine g_iload_n dX8_readRule_178 rfl ?_
      refine g_iald_n dX8_readRule_179 (by first | rfl | assumption) (by first | decide | assumption) (by omega) (by omega) ?_
      try simp (disch := omega) only [e45]
      refine g_iconst (nI 1) dX8_readRule_180 ki_1 ?_
      refine g_isub dX8_readRule_181 ?_
      refine g_call2 dX8_readRule_182 clT_takeNumber ml_X_75 gc7 rfl rfl (by decide) (Nat.le_of_ble_eq_true rfl) ?_
      have hlt := nuV_lt n t (mu n t 114 q)
      refine ST_takeNumber (lo := 0) (hi := nuV n t (mu n t 114 q) - 1) hT5 (fun hok => ⟨rfl, ?_⟩) (by omega) (by omega) (fun M6 v2 hE6 hT6 hv2 => ?_)
      · obtain ⟨g1, g2, g3⟩ := ok_nu (ok_mu hok)
        rw [hv1 g1, nI_sub (by omega)]
      refine g_iast_n dX8_readRule_185 (by first | rfl | assumption) (by first | decide | assumption) (by omega) (by omega) ?_
      refine g_return dX8_readRule_186 rfl ?_
      refine hfin _ (nI 2) v1 v2 ((((((hE1.sub (by decide)).tr ((hE2.sub (by decide)).tr (hE3.sub (by decide)))).tr (EqO.set (by decide))).tr (hE4.sub (by decide))).tr (EqO.set (by decide))).tr ((hE5.sub (by decide)).tr ((hE6.sub (by decide)).tr (EqO.set (by decide))))) (hT6.off (mset_ne (by decide)) (mset_ne (by decide))) ?_ ?_ ?_ (fun hok => ?_)
      · rw [mset_ne (by decide), hE6 44 (by decide), hE5 44 (by decide), mset_ne (by decide), hE4 44 (by decide), mset_same, hE3 44 (by decide), hE2 44 (by decide), hE1 44 (by decide)]
      · rw [mset_ne (by decide), hE6 45 (by decide), hE5 45 (by decide), mset_same, hE4 45 (by decide), mset_ne (by decide), hE3 45 (by decide), hE2 45 (by decide), hE1 45 (by decide)]
      · rw [mset_same, hE6 46 (by decide), hE5 46 (by decide), mset_ne (by decide), hE4 46 (by decide), mset_ne (by decide), hE3 46 (by decide), hE2 46 (by decide), hE1 46 (by decide)]
      · exact ⟨rfl, hv1 (ok_nu (ok_mu (ok_nu hok).1)).1, hv2 (ok_nu hok).1⟩
abbrev z3 : RU := (0, 0, 0)
def RWl (M : Mm) (l : List RU) : Prop := ∀ j, j < l.length → RWc M j (l.getD j z3)
theorem getD_appR {l : List RU} {x : RU} {i : Nat} (h : i < l.length) : (l ++ [x]).getD i z3 = l.getD i z3 := by
  rw [List.getD_eq_getElem?_getD, List.getD_eq_getElem?_getD, List.getElem?_append_left h]
theorem getD_lastR {l : List RU} {x : RU} : (l ++ [x]).getD l.length z3 = x := by
  rw [List.getD_eq_getElem?_getD, List.getElem?_append_right (Nat.le_refl _), Nat.sub_self]
  rfl
theorem RWl.app {M M' : Mm} {l : List RU} {x : RU} (h : RWl M l) (h1 : ∀ j, j ≠ l.length → M' 44 j = M 44 j ∧ M' 45 j = M 45 j ∧ M' 46 j = M 46 j) (h2 : RWc M' l.length x) : RWl M' (l ++ [x]) := by
  intro j hj
  rw [List.length_append, List.length_singleton] at hj
  by_cases e : j = l.length
  · subst e; rw [getD_lastR]; exact h2
  · rw [getD_appR (by omega)]
    obtain ⟨k1, k2, k3⟩ := h1 j e
    unfold RWc
    rw [k1, k2, k3]
    exact h j (by omega)
theorem RWl.off {M M' : Mm} {l : List RU} (h : RWl M l) (h1 : M' 44 = M 44) (h2 : M' 45 = M 45) (h3 : M' 46 = M 46) : RWl M' l := by
  intro j hj
  unfold RWc
  rw [h1, h2, h3]
  exact h j hj
theorem SX_readRules {d : Nat} {n : Nat} {t : Nat → Nat} {M : Mm} {S : BS} {Q : Po} {p : Nat} (hB : BK M S) (hp : p < S 0 0 0) (hT : TPc n t M) (h : ∀ M', EqO [41, 43, 44, 45, 46] M M' → TC n t M' (rsP n t (8 - S 6 p 0) (.inl 0) []).1 → (okB (rsP n t (8 - S 6 p 0) (.inl 0) []).1 = true → M' 43 8 = nI (rsP n t (8 - S 6 p 0) (.inl 0) []).2.length ∧ RWl M' (rsP n t (8 - S 6 p 0) (.inl 0) []).2) → Q M' none) : Call (d + 5) mX_readRules [.ref 43, .int (nI p)] M Q := by
  have hw := hB.wf.np
  have hr8 := hB.wf.nr (p := p) (by omega)
  refine Call_of (m := mX_readRules) [some (.ref 43), some (.int (nI p)), none, none] rfl (fun G => Nat.le_of_ble_eq_true rfl) (fun G => rfl) ?_
  refine g_bipush (nI 8) dX8_readRules_0 kb_8 ?_
  refine g_aload_n dX8_readRules_2 rfl ?_
  refine g_getr (j := 0) dX8_readRules_3 gc8 rfl (by decide) rfl (by decide) fl_X_30 ?_
  refine g_iload_n dX8_readRules_6 rfl ?_
  refine g_call1 dX8_readRules_7 clB_countRulesOf ml_X_42 gc0 rfl rfl (by decide) (Nat.le_of_ble_eq_true rfl) ?_
  refine SB_countRulesOf hB hp ?_
  first | refine g_isub_n dX8_readRules_10 (by omega) ?_ | refine g_isub dX8_readRules_10 ?_
  refine g_ist4_2 dX8_readRules_11 (by decide) rfl ?_
  refine g_aload_n dX8_readRules_12 rfl ?_
  refine g_getr (j := 1) dX8_readRules_13 gc8 rfl (by decide) rfl (by decide) fl_X_34 ?_
  refine g_call0 dX8_readRules_16 clT_start ml_X_48 gc7 rfl rfl (by decide) (Nat.le_of_ble_eq_true rfl) ?_
  refine ST_start hT (fun M0 hE0 hT0 => ?_)
  refine g_iconst (nI 0) dX8_readRules_19 ki_0 ?_
  refine g_ist4_3 dX8_readRules_20 (by decide) rfl ?_
  suffices hloop : ∀ r q l M', l.length + r = 8 - S 6 p 0 → EqO [41, 43, 44, 45, 46] M M' → TC n t M' q → okB q = true → RWl M' l → rsP n t (8 - S 6 p 0) (.inl 0) [] = rsP n t r q l → Go mX_readRules (d + 5) Q 21 [some (.ref 43), some (.int (nI p)), some (.int (nI (8 - S 6 p 0))), some (.int (nI l.length))] [] M' by
    exact hloop _ _ [] M0 (by simp) (hE0.sub (by decide)) hT0 rfl (fun j hj => absurd hj (by simp)) rfl
  intro r
  induction r with
  | zero =>
    intro q l M' hl hE hT1 hok hR hq
    rw [hq, rsP] at h
    refine g_iload_n dX8_readRules_21 rfl ?_
    refine g_iload_n dX8_readRules_22 rfl ?_
    refine g_icmp_ge_n 71 dX8_readRules_23 (by decide) (by omega) (by omega) (fun c23 => ?_) (fun c23 => ?_)
    · skip
      refine g_aload_n dX8_readRules_71 rfl ?_
      refine g_getr (j := 1) dX8_readRules_72 gc8 rfl (by decide) rfl (by decide) fl_X_34 ?_
      refine g_aload_n dX8_readRules_75 rfl ?_
      refine g_getr (j := 1) dX8_readRules_76 gc8 rfl (by decide) rfl (by decide) fl_X_34 ?_
      refine g_call0 dX8_readRules_79 clT_at ml_X_64 gc7 rfl rfl (by decide) (Nat.le_of_ble_eq_true rfl) ?_
      refine ST_at ?_
      refine g_call1 dX8_readRules_82 clT_fail ml_X_68 gc7 rfl rfl (by decide) (Nat.le_of_ble_eq_true rfl) ?_
      refine ST_failA hT1 rfl (fun M2 hE2 hT2 => ?_)
      refine g_return dX8_readRules_85 rfl ?_
      exact h M2 (hE.tr (hE2.sub (by decide))) hT2 (fun z => by rw [ok_fl] at z; cases z)
    · exact absurd hl (by omega)
  | succ r ih =>
    intro q l M' hl hE hT1 hok hR hq
    rw [rsP] at hq
    refine g_iload_n dX8_readRules_21 rfl ?_
    refine g_iload_n dX8_readRules_22 rfl ?_
    refine g_icmp_ge_n 71 dX8_readRules_23 (by decide) (by omega) (by omega) (fun c23 => ?_) (fun c23 => ?_)
    · exact absurd hl (by omega)
    · refine g_iload_n dX8_readRules_26 rfl ?_
      refine g_bipush (nI 8) dX8_readRules_27 kb_8 ?_
      refine g_icmp_ge_n 71 dX8_readRules_29 (by decide) (by omega) (by omega) (fun c29 => ?_) (fun c29 => ?_)
      · exact absurd hl (by omega)
      · refine g_aload_n dX8_readRules_32 rfl ?_
        refine g_iload_n dX8_readRules_33 rfl ?_
        refine g_call1 dX8_readRules_34 clX_readRule ml_X_53 gc8 rfl rfl (by decide) (Nat.le_of_ble_eq_true rfl) ?_
        refine SX_readRule (by omega) hT1 (fun M2 hE2 hT2 ho2 hv2 => ?_)
        refine g_aload_n dX8_readRules_37 rfl ?_
        refine g_iload_n dX8_readRules_38 rfl ?_
        refine g_iconst (nI 1) dX8_readRules_39 ki_1 ?_
        first | refine g_iadd_n dX8_readRules_40 ?_ | refine g_iadd dX8_readRules_40 ?_
        refine g_puti (j := 8) dX8_readRules_41 gc8 rfl (by decide) rfl (by decide) fl_X_38 rfl (tyX8_ok 8 (by decide)) (by first | rfl | exact nar_bI _) rfl ?_
        refine g_aload_n dX8_readRules_44 rfl ?_
        refine g_getr (j := 1) dX8_readRules_45 gc8 rfl (by decide) rfl (by decide) fl_X_34 ?_
        refine g_call0 dX8_readRules_48 clT_isFaulty ml_X_57 gc7 rfl rfl (by decide) (Nat.le_of_ble_eq_true rfl) ?_
        have hT3 : TC n t (mset M2 43 8 (nI (l.length + 1))) (ruP n t q).1 := hT2.off (mset_ne (by decide)) (mset_ne (by decide))
        have hE3 : EqO [41, 43, 44, 45, 46] M (mset M2 43 8 (nI (l.length + 1))) := (hE.tr (hE2.sub (by decide))).tr (EqO.set (by decide))
        refine ST_isFaulty hT3 ?_
        by_cases hok2 : okB (ruP n t q).1 = true
        · have hR2 : RWl (mset M2 43 8 (nI (l.length + 1))) (l ++ [(ruP n t q).2]) := RWl.off (hR.app ho2 (hv2 hok2)) (mset_ne (by decide)) (mset_ne (by decide)) (mset_ne (by decide))
          rw [hok2]
          refine g_if_ne_ff 64 dX8_readRules_51 (by decide) ?_
          refine g_aload_n dX8_readRules_54 rfl ?_
          refine g_getr (j := 1) dX8_readRules_55 gc8 rfl (by decide) rfl (by decide) fl_X_34 ?_
          refine g_call0 dX8_readRules_58 clT_takesPart ml_X_61 gc7 rfl rfl (by decide) (Nat.le_of_ble_eq_true rfl) ?_
          refine ST_takesPart hT3 (fun M4 hE4 hT4 => ?_)
          have hR4 : RWl M4 (l ++ [(ruP n t q).2]) := hR2.off (hE4 44 (by decide)) (hE4 45 (by decide)) (hE4 46 (by decide))
          by_cases c : tk n t 59 (ruP n t q).1 = true
          · rw [if_pos c] at hq hT4
            rw [c]
            refine g_if_ne_tt 65 dX8_readRules_61 (by decide) ?_
            first | refine g_incn4_3 dX8_readRules_65 ki_1 (by decide) rfl ?_ | refine g_incg4_3 (nI 1) dX8_readRules_65 ki_1 (by decide) rfl ?_
            refine g_goto 21 dX8_readRules_68 (by decide) ?_
            rw [show l.length + 1 = (l ++ [(ruP n t q).2]).length by simp]
            exact ih _ _ M4 (by simp; omega) (hE3.tr (hE4.sub (by decide))) hT4 (by rw [ok_tk]; exact hok2) hR4 hq
          · rw [if_neg c] at hq hT4
            rw [hq] at h
            rw [Bool.eq_false_iff.mpr c]
            refine g_if_ne_ff 65 dX8_readRules_61 (by decide) ?_
            refine g_return dX8_readRules_64 rfl ?_
            refine h M4 (hE3.tr (hE4.sub (by decide))) hT4 (fun _ => ⟨?_, hR4⟩)
            rw [hE4 43 (by decide), mset_at]
            simp
        · have hok2 := Bool.eq_false_iff.mpr hok2
          rw [if_neg (by rw [tk_no hok2]; decide)] at hq
          rw [hq, en_no hok2] at h
          rw [hok2]
          refine g_if_ne_tt 64 dX8_readRules_51 (by decide) ?_
          refine g_return dX8_readRules_64 rfl ?_
          exact h _ hE3 hT3 (fun z => by rw [hok2] at z; cases z)
