/-! rules in the reference, both -/
def RWm (M : Mm) (l : List RU) : Prop := ∀ j, j < l.length → RWm1 M j (l.getD j z3)
theorem RWm.app {M M' : Mm} {l : List RU} {x : RU} (h : RWm M l) (h1 : ∀ j, j < 3 * l.length → M' 70 j = M 70 j) (h2 : RWm1 M' l.length x) : RWm M' (l ++ [x]) := by
  intro j hj
  rw [List.length_append, List.length_singleton] at hj
  by_cases e : j = l.length
  · subst e; rw [getD_lastR]; exact h2
  · rw [getD_appR (by omega)]
    unfold RWm1
    rw [h1 _ (by omega), h1 _ (by omega), h1 _ (by omega)]
    exact h j (by omega)
theorem RWm.off {M M' : Mm} {l : List RU} (h : RWm M l) (h1 : M' 70 = M 70) : RWm M' l := by
  intro j hj
  unfold RWm1
  rw [h1]
  exact h j hj
theorem neg_3 : ∀ f, f < 151 → (nI 3 * (-100 - nI f) ≤ nI 0 ∧ -100 - nI f ≤ 0) := by decide +kernel
theorem TM.le {n : Nat} {t : Nat → Nat} {M : Mm} {f : Nat} (h : TM n t M (.inr f)) : f < 151 := by
  have := h.1.1
  have h2 : f ≤ n := h.2.1
  omega
theorem SM_rules (x : Int32) (M : Mm) (S : BS) (n : Nat) (t : Nat → Nat) (Q : Po) (hM : MK (M 58) S) (hC : MC M) (hH : HM S) (hT : TPm n t M) (h : ∀ M', FxM M M' → MK (M' 58) (f_rules x S n t).2.1 → M' 57 19 = (if (f_rules x S n t).2.2 = true then nI n else nI 0) → Q M' (some (.int (f_rules x S n t).1))) : Call 60 mM_rules [.ref 57, .int x] M Q := by
  have hw := hM.wf.np
  have hn150 := hT.1
  unfold f_rules at h
  refine Call_of (m := mM_rules) [some (.ref 57), some (.int x), none, none] rfl (fun G => Nat.le_of_ble_eq_true rfl) (fun G => rfl) ?_
  refine g_aload_n dX10_rules_0 rfl ?_
  refine g_iload_n dX10_rules_1 rfl ?_
  refine g_call1 dX10_rules_2 clM_isOne ml_M_72 gc10 rfl rfl (by decide) (Nat.le_of_ble_eq_true rfl) ?_
  refine SM_isOne hM x ?_
  refine g_if_ne_b 10 dX10_rules_5 (by decide) (fun c5 => ?_) (fun c5 => ?_)
  · obtain ⟨p, hp, rfl⟩ := inR_true c5
    rw [if_pos c5, v2n_nI (show p < 2 ^ 31 by omega)] at h
    have hr8 := hM.wf.nr (p := p) (by omega)
    refine g_aload_n dX10_rules_10 rfl ?_
    refine g_iload_n dX10_rules_11 rfl ?_
    refine g_call1 dX10_rules_12 clM_isHere ml_M_100 gc10 rfl rfl (by decide) (Nat.le_of_ble_eq_true rfl) ?_
    refine SM_isHere hM (by omega) ?_
    refine g_if_ne_b 21 dX10_rules_15 (by decide) (fun c15 => ?_) (fun c15 => ?_)
    · rw [if_pos c15] at h
      dsimp only at h
      refine g_aload_n dX10_rules_21 rfl ?_
      refine g_call0 dX10_rules_22 clM_opensTape ml_M_282 gc10 rfl rfl (by decide) (Nat.le_of_ble_eq_true rfl) ?_
      refine SM_opensTape hT (fun M1 hE1 hT1 => ?_)
      refine g_aload_n dX10_rules_25 rfl ?_
      refine g_iconst (nI 0) dX10_rules_26 ki_0 ?_
      refine g_puti (j := 24) dX10_rules_27 gc10 rfl (by decide) rfl (by decide) fl_M_270 rfl (tyX10_ok 24 (by decide)) (by first | rfl | exact nar_bI _) rfl ?_
      have hinv := fun (hx : okB (rsP n t (8 - S 6 p 0) (.inl 0) []).1 = true) => rsP_ok (n := n) (t := t) (r := 8 - S 6 p 0) (q := .inl 0) (l := []) (fun x hx => absurd hx (by simp)) hx
      have htail : ∀ q l M', EqQ [70] M M' → TM n t M' q → M' 57 24 = nI l.length → rsP n t (8 - S 6 p 0) (.inl 0) [] = (enS n q, l) → (okB (enS n q) = true → RWm M' l) → Go mM_rules 60 Q 55 [some (.ref 57), some (.int (nI p)), none, none] [] M' := by
        intro q l M' hE hT2 h24 hrs hR
        rw [hrs] at h hinv
        dsimp only at h
        refine g_aload_n dX10_rules_55 rfl ?_
        refine g_aload_n dX10_rules_56 rfl ?_
        refine g_geti (j := 24) dX10_rules_57 gc10 rfl (by decide) rfl (by decide) fl_M_270 ?_
        try simp (disch := omega) only [h24]
        refine g_call1 dX10_rules_60 clM_closes ml_M_288 gc10 rfl rfl (by decide) (Nat.le_of_ble_eq_true rfl) ?_
        refine SM_closes _ hT2 (fun M2 hE2 h19 => ?_)
        have hX2 : EqX [58, 70] M M2 := ((EqX.ofQ hE).sub (by decide)).tr (EqX.ofC hE2)
        have k58 : M2 58 = M 58 := by
          funext j
          rw [hE2 58 j (by omega), hE 58 j (by decide) (by omega)]
        have hM2 : MK (M2 58) S := by rw [k58]; exact hM
        by_cases hok : okB (enS n q) = true
        · obtain ⟨v1, v2, v3⟩ := hinv hok
          have v2 : l.length ≤ 8 - S 6 p 0 := by simpa using v2
          have v3 : 0 < l.length := by simpa using v3
          have hR2 : RWm M2 l := (hR hok).off (funext fun j => hE2 70 j (by omega))
          rw [if_pos hok] at h
          have hcl : clV (nI l.length) (enS n q) = nI l.length := by
            cases hq : enS n q with
            | inl a => rfl
            | inr f => rw [hq] at hok; cases hok
          rw [hcl] at h ⊢
          refine g_ist4_2 dX10_rules_63 (by decide) rfl ?_
          refine g_iconst (nI 0) dX10_rules_64 ki_0 ?_
          refine g_ist4_3 dX10_rules_65 (by decide) rfl ?_
          refine loop_up (P := fun i => ∀ M', EqO [58] M2 M' → (∀ j, M' 58 j = if 59 + 24 * p + 3 * S 6 p 0 ≤ j ∧ j < 59 + 24 * p + 3 * S 6 p 0 + i then M2 70 (j - (59 + 24 * p + 3 * S 6 p 0)) else M2 58 j) → Go mM_rules 60 Q 66 [some (.ref 57), some (.int (nI p)), some (.int (nI l.length)), some (.int (nI i))] [] M') (3 * l.length) ?_ 0 (Nat.zero_le _) M2 EqO.rf (fun j => by rw [if_neg (by omega)])
          intro i hi ih M3 hE3 h58
          have enr : M3 58 (51 + p) = nI (S 6 p 0) := by rw [h58, if_neg (by omega)]; exact hM2.nr hp
          refine g_iload_n dX10_rules_66 rfl ?_
          refine g_iconst (nI 3) dX10_rules_67 ki_3 ?_
          refine g_iload_n dX10_rules_68 rfl ?_
          first | refine g_imul_n dX10_rules_69 ?_ | refine g_imul dX10_rules_69 ?_
          refine g_icmp_ge_n 111 dX10_rules_70 (by decide) (by omega) (by omega) (fun c70 => ?_) (fun c70 => ?_)
          · refine g_aload_n dX10_rules_111 rfl ?_
            refine g_getr (j := 0) dX10_rules_112 gc10 rfl (by decide) rfl (by decide) fl_M_9 ?_
            refine g_bipush (nI 51) dX10_rules_115 kb_51 ?_
            refine g_iload_n dX10_rules_117 rfl ?_
            first | refine g_iadd_n dX10_rules_118 ?_ | refine g_iadd dX10_rules_118 ?_
            refine g_dup2 dX10_rules_119 rfl rfl ?_
            refine g_iald_n dX10_rules_120 (by first | rfl | assumption) (by first | decide | assumption) (by omega) (by omega) ?_
            try simp (disch := omega) only [enr]
            refine g_iload_n dX10_rules_121 rfl ?_
            refine g_if_le_n 129 dX10_rules_122 (by decide) (by omega) (fun c122 => ?_) (fun c122 => ?_)
            · exact absurd v3 (by omega)
            · have hMa : MK (upd (M3 58) (51 + p) (nI (S 6 p 0 + l.length))) (adR S p (gR l) l.length) := by
                refine MKadR hM2 hp (by omega) (fun j hj => gR_ok v1 hj) (upd_at _ _ _) (fun j hj => ?_) (fun j n1 n2 => ?_)
                · obtain ⟨y1, y2, y3⟩ := hR2 j hj
                  rw [upd_off (by omega), upd_off (by omega), upd_off (by omega), h58, h58, h58, if_pos (by omega), if_pos (by omega), if_pos (by omega), show 59 + 24 * p + 3 * (S 6 p 0 + j) - (59 + 24 * p + 3 * S 6 p 0) = 3 * j by omega, show 59 + 24 * p + 3 * (S 6 p 0 + j) + 1 - (59 + 24 * p + 3 * S 6 p 0) = 3 * j + 1 by omega, show 59 + 24 * p + 3 * (S 6 p 0 + j) + 2 - (59 + 24 * p + 3 * S 6 p 0) = 3 * j + 2 by omega]
                  exact ⟨y1, y2, y3⟩
                · rw [upd_off n1, h58, if_neg (by omega)]
              refine g_iload_n dX10_rules_125 rfl ?_
              refine g_goto 130 dX10_rules_126 (by decide) ?_
              first | refine g_iadd_n dX10_rules_130 ?_ | refine g_iadd dX10_rules_130 ?_
              refine g_iast_n dX10_rules_131 (by first | rfl | assumption) (by first | decide | assumption) (by omega) (by omega) ?_
              refine g_aload_n dX10_rules_132 rfl ?_
              refine g_iload_n dX10_rules_133 rfl ?_
              refine g_call1 dX10_rules_134 clM_opensBarred ml_M_109 gc10 rfl rfl (by decide) (Nat.le_of_ble_eq_true rfl) ?_
              refine SM_opensBarred (by rw [mset_same]; exact hMa) (by omega) (fun M4 hE4 hM4 => ?_)
              rw [show adR S p (gR l) l.length 1 0 0 = S 1 0 0 by rw [adR_oth (by omega)]] at hM4
              refine g_iload_n dX10_rules_137 rfl ?_
              refine g_ireturn dX10_rules_138 rfl (by first | rfl | exact nar_bI _) ?_
              refine h M4 (FxM.ofX (hX2.tr (((EqX.ofO hE3).sub (by decide)).tr (EqX.tr ((EqX.ofO (EqO.set (L := [58]) (by decide))).sub (by decide)) ((EqX.ofO hE4).sub (by decide))))) (by decide)) hM4 ?_
              rw [hE4 57 (by decide), mset_ne (by decide), hE3 57 (by decide), h19]
              rfl
          · refine g_aload_n dX10_rules_73 rfl ?_
            refine g_getr (j := 0) dX10_rules_74 gc10 rfl (by decide) rfl (by decide) fl_M_9 ?_
            refine g_bipush (nI 59) dX10_rules_77 kb_59 ?_
            refine g_bipush (nI 24) dX10_rules_79 kb_24 ?_
            refine g_iload_n dX10_rules_81 rfl ?_
            first | refine g_imul_n dX10_rules_82 ?_ | refine g_imul dX10_rules_82 ?_
            first | refine g_iadd_n dX10_rules_83 ?_ | refine g_iadd dX10_rules_83 ?_
            refine g_iconst (nI 3) dX10_rules_84 ki_3 ?_
            refine g_aload_n dX10_rules_85 rfl ?_
            refine g_getr (j := 0) dX10_rules_86 gc10 rfl (by decide) rfl (by decide) fl_M_9 ?_
            refine g_bipush (nI 51) dX10_rules_89 kb_51 ?_
            refine g_iload_n dX10_rules_91 rfl ?_
            first | refine g_iadd_n dX10_rules_92 ?_ | refine g_iadd dX10_rules_92 ?_
            refine g_iald_n dX10_rules_93 (by first | rfl | assumption) (by first | decide | assumption) (by omega) (by omega) ?_
            try simp (disch := omega) only [enr]
            first | refine g_imul_n dX10_rules_94 ?_ | refine g_imul dX10_rules_94 ?_
            first | refine g_iadd_n dX10_rules_95 ?_ | refine g_iadd dX10_rules_95 ?_
            refine g_iload_n dX10_rules_96 rfl ?_
            first | refine g_iadd_n dX10_rules_97 ?_ | refine g_iadd dX10_rules_97 ?_
            refine g_aload_n dX10_rules_98 rfl ?_
            refine g_getr (j := 23) dX10_rules_99 gc10 rfl (by decide) rfl (by decide) fl_M_47 ?_
            refine g_iload_n dX10_rules_102 rfl ?_
            refine g_iald_n dX10_rules_103 (by first | rfl | assumption) (by first | decide | assumption) (by omega) (by omega) ?_
            try simp (disch := omega) only [enr]
            refine g_iast_n dX10_rules_104 (by first | rfl | assumption) (by first | decide | assumption) (by omega) (by omega) ?_
            first | refine g_incn4_3 dX10_rules_105 ki_1 (by decide) rfl ?_ | refine g_incg4_3 (nI 1) dX10_rules_105 ki_1 (by decide) rfl ?_
            refine g_goto 66 dX10_rules_108 (by decide) ?_
            refine ih (by omega) _ (hE3.tr (EqO.set (by decide))) (fun j => ?_)
            have e70 : M3 70 i = M2 70 i := by rw [hE3 70 (by decide)]
            by_cases e : j = 59 + 24 * p + 3 * S 6 p 0 + i
            · subst e
              rw [mset_at, if_pos (by omega), e70, show 59 + 24 * p + 3 * S 6 p 0 + i - (59 + 24 * p + 3 * S 6 p 0) = i by omega]
            · rw [mset_off (by omega), h58]
              by_cases z : 59 + 24 * p + 3 * S 6 p 0 ≤ j ∧ j < 59 + 24 * p + 3 * S 6 p 0 + i
              · rw [if_pos z, if_pos (by omega)]
              · rw [if_neg z, if_neg (by omega)]
        · have hok := Bool.eq_false_iff.mpr hok
          rw [if_neg (by rw [hok]; decide)] at h
          have hT3 : ∃ f, enS n q = .inr f ∧ f < 151 := by
            cases q with
            | inl b =>
              have hb : b ≤ n := hT2.2.1
              simp only [enS] at hok ⊢
              split at hok
              · rename_i z; rw [if_pos z]; exact ⟨b, rfl, by omega⟩
              · cases hok
            | inr f => exact ⟨f, rfl, hT2.le⟩
          obtain ⟨f, hf, hf2⟩ := hT3
          have hneg := neg_3 f hf2
          rw [hf] at h ⊢
          rw [show clV (nI l.length) (.inr f) = -100 - nI f from rfl] at h ⊢
          generalize -100 - nI f = w0 at h hneg ⊢
          have enr : M2 58 (51 + p) = nI (S 6 p 0) := hM2.nr hp
          refine g_ist4_2 dX10_rules_63 (by decide) rfl ?_
          refine g_iconst (nI 0) dX10_rules_64 ki_0 ?_
          refine g_ist4_3 dX10_rules_65 (by decide) rfl ?_
          refine g_iload_n dX10_rules_66 rfl ?_
          refine g_iconst (nI 3) dX10_rules_67 ki_3 ?_
          refine g_iload_n dX10_rules_68 rfl ?_
          refine g_imul dX10_rules_69 ?_
          refine g_icmp_ge 111 dX10_rules_70 (by decide) (fun c70 => ?_) (fun c70 => ?_)
          · refine g_aload_n dX10_rules_111 rfl ?_
            refine g_getr (j := 0) dX10_rules_112 gc10 rfl (by decide) rfl (by decide) fl_M_9 ?_
            refine g_bipush (nI 51) dX10_rules_115 kb_51 ?_
            refine g_iload_n dX10_rules_117 rfl ?_
            first | refine g_iadd_n dX10_rules_118 ?_ | refine g_iadd dX10_rules_118 ?_
            refine g_dup2 dX10_rules_119 rfl rfl ?_
            refine g_iald_n dX10_rules_120 (by first | rfl | assumption) (by first | decide | assumption) (by omega) (by omega) ?_
            try simp (disch := omega) only [enr]
            refine g_iload_n dX10_rules_121 rfl ?_
            refine g_if_le 129 dX10_rules_122 (by decide) (fun c122 => ?_) (fun c122 => ?_)
            · refine g_iconst (nI 0) dX10_rules_129 ki_0 ?_
              first | refine g_iadd_n dX10_rules_130 ?_ | refine g_iadd dX10_rules_130 ?_
              refine g_iast_n dX10_rules_131 (by first | rfl | assumption) (by first | decide | assumption) (by omega) (by omega) ?_
              refine g_aload_n dX10_rules_132 rfl ?_
              refine g_iload_n dX10_rules_133 rfl ?_
              refine g_call1 dX10_rules_134 clM_opensBarred ml_M_109 gc10 rfl rfl (by decide) (Nat.le_of_ble_eq_true rfl) ?_
              have hMs : mset M2 58 (51 + p) (nI (S 6 p 0 + 0)) 58 = M2 58 := by
                rw [mset_same, Nat.add_zero, ← enr, upd_self]
              refine SM_opensBarred (by rw [hMs]; exact hM2) (by omega) (fun M4 hE4 hM4 => ?_)
              rw [opnI_HM hH (by omega)] at hM4
              refine g_iload_n dX10_rules_137 rfl ?_
              refine g_ireturn dX10_rules_138 rfl (by first | rfl | exact nar_bI _) ?_
              refine h M4 (FxM.ofX (hX2.tr (EqX.tr ((EqX.ofO (EqO.set (L := [58]) (by decide))).sub (by decide)) ((EqX.ofO hE4).sub (by decide)))) (by decide)) hM4 ?_
              rw [hE4 57 (by decide), mset_ne (by decide), h19]
              rfl
            · exact absurd hneg.2 c122
          · exact absurd hneg.1 c70
      suffices hloop : ∀ r q l M', l.length + r = 8 - S 6 p 0 → EqQ [70] M M' → TM n t M' q → M' 57 24 = nI l.length → RWm M' l → rsP n t (8 - S 6 p 0) (.inl 0) [] = rsP n t r q l → Go mM_rules 60 Q 30 [some (.ref 57), some (.int (nI p)), none, none] [] M' by
        exact hloop _ _ [] _ (by simp) ((hE1.q.sub (by simp)).tr (EqQ.set57 (by omega))) (hT1.off (mset_ne (by decide)) (fun j hj => mset_off (by omega))) (mset_at _ _ _ _) (fun j hj => absurd hj (by simp)) rfl
      intro r
      clear h
      induction r with
      | zero =>
        intro q l M' hl hE hT2 h24 hR hq
        rw [rsP] at hq
        have enr : M' 58 (51 + p) = nI (S 6 p 0) := by rw [hE 58 _ (by decide) (by omega)]; exact hM.nr hp
        refine g_aload_n dX10_rules_30 rfl ?_
        refine g_bipush (nI 8) dX10_rules_31 kb_8 ?_
        refine g_aload_n dX10_rules_33 rfl ?_
        refine g_getr (j := 0) dX10_rules_34 gc10 rfl (by decide) rfl (by decide) fl_M_9 ?_
        refine g_bipush (nI 51) dX10_rules_37 kb_51 ?_
        refine g_iload_n dX10_rules_39 rfl ?_
        first | refine g_iadd_n dX10_rules_40 ?_ | refine g_iadd dX10_rules_40 ?_
        refine g_iald_n dX10_rules_41 (by first | rfl | assumption) (by first | decide | assumption) (by omega) (by omega) ?_
        try simp (disch := omega) only [enr]
        first | refine g_isub_n dX10_rules_42 (by omega) ?_ | refine g_isub dX10_rules_42 ?_
        refine g_call1 dX10_rules_43 clM_readsRule ml_M_285 gc10 rfl rfl (by decide) (Nat.le_of_ble_eq_true rfl) ?_
        refine SM_readsRuleF (by omega) (by omega) hT2 h24 (fun M2 hE2 hT3 => ?_)
        refine g_aload_n dX10_rules_46 rfl ?_
        refine g_bipush (nI 59) dX10_rules_47 kb_59 ?_
        refine g_call1 dX10_rules_49 clM_takes ml_M_257 gc10 rfl rfl (by decide) (Nat.le_of_ble_eq_true rfl) ?_
        refine SM_takes (c := 59) (by omega) hT3 (fun M3 hE3 hT4 => ?_)
        rw [tkS_f tk_fl] at hT4
        rw [tk_fl]
        refine g_if_ne_ff 30 dX10_rules_52 (by decide) ?_
        exact htail (flA q) l M3 (hE.tr ((hE2.q.sub (by simp)).tr (hE3.q.sub (by simp)))) hT4 (by rw [hE3 57 24 (by omega), hE2 57 24 (by omega)]; exact h24) (by rw [en_fl]; exact hq) (fun z => by rw [en_fl, ok_fl] at z; cases z)
      | succ r ih =>
        intro q l M' hl hE hT2 h24 hR hq
        rw [rsP] at hq
        have enr : M' 58 (51 + p) = nI (S 6 p 0) := by rw [hE 58 _ (by decide) (by omega)]; exact hM.nr hp
        have hC2 : MC M' := ⟨fun j hj => by rw [hE 60 _ (by decide) (by omega)]; exact hC.1 j hj, fun j hj => by rw [hE 61 _ (by decide) (by omega)]; exact hC.2 j hj⟩
        refine g_aload_n dX10_rules_30 rfl ?_
        refine g_bipush (nI 8) dX10_rules_31 kb_8 ?_
        refine g_aload_n dX10_rules_33 rfl ?_
        refine g_getr (j := 0) dX10_rules_34 gc10 rfl (by decide) rfl (by decide) fl_M_9 ?_
        refine g_bipush (nI 51) dX10_rules_37 kb_51 ?_
        refine g_iload_n dX10_rules_39 rfl ?_
        first | refine g_iadd_n dX10_rules_40 ?_ | refine g_iadd dX10_rules_40 ?_
        refine g_iald_n dX10_rules_41 (by first | rfl | assumption) (by first | decide | assumption) (by omega) (by omega) ?_
        try simp (disch := omega) only [enr]
        first | refine g_isub_n dX10_rules_42 (by omega) ?_ | refine g_isub dX10_rules_42 ?_
        refine g_call1 dX10_rules_43 clM_readsRule ml_M_285 gc10 rfl rfl (by decide) (Nat.le_of_ble_eq_true rfl) ?_
        refine SM_readsRule (i := l.length) (by omega) (by omega) hT2 hC2 h24 (fun M2 hE2 hT3 h24' hlo hv2 => ?_)
        refine g_aload_n dX10_rules_46 rfl ?_
        refine g_bipush (nI 59) dX10_rules_47 kb_59 ?_
        refine g_call1 dX10_rules_49 clM_takes ml_M_257 gc10 rfl rfl (by decide) (Nat.le_of_ble_eq_true rfl) ?_
        refine SM_takes (c := 59) (by omega) hT3 (fun M3 hE3 hT4 => ?_)
        have hE4 : EqQ [70] M M3 := hE.tr (hE2.tr (hE3.q.sub (by simp)))
        have e24 : M3 57 24 = nI (l ++ [(ruP n t q).2]).length := by
          rw [hE3 57 24 (by omega), h24']
          simp
        have hR4 : okB (ruP n t q).1 = true → RWm M3 (l ++ [(ruP n t q).2]) := fun z => (hR.app hlo (hv2 z)).off (hE3.row (by decide))
        by_cases c : tk n t 59 (ruP n t q).1 = true
        · rw [if_pos c] at hq
          rw [c]
          refine g_if_ne_tt 30 dX10_rules_52 (by decide) ?_
          exact ih _ _ M3 (by simp; omega) hE4 hT4 e24 (hR4 (tk_ok c)) hq
        · rw [if_neg c] at hq
          have c := Bool.eq_false_iff.mpr c
          rw [tkS_f c] at hT4
          rw [c]
          refine g_if_ne_ff 30 dX10_rules_52 (by decide) ?_
          exact htail _ _ M3 hE4 hT4 e24 hq (fun z => hR4 (ok_en z).1)
    · rw [if_neg (by rw [c15]; decide)] at h
      refine g_bipush ((-3)) dX10_rules_18 kb_m3 ?_
      refine g_ireturn dX10_rules_20 rfl (by first | rfl | exact nar_bI _) ?_
      exact h M FxM.rf hM hT.2.2.1
  · rw [if_neg (by rw [c5]; decide)] at h
    refine g_iconst ((-1)) dX10_rules_8 ki_m1 ?_
    refine g_ireturn dX10_rules_9 rfl (by first | rfl | exact nar_bI _) ?_
    exact h M FxM.rf hM hT.2.2.1
theorem both_rules (x : Int32) : Both mF_rules mM_rules [.int x] := both_text (f_rules x) (fun M S n t Q => SF_rules x M S n t Q) (fun M S n t Q => SM_rules x M S n t Q) (fun S n t hn ht hW hH => by
  have hw := hW.np
  unfold f_rules
  by_cases hx : inR x (S 0 0 0) = true
  · obtain ⟨p, hp, rfl⟩ := inR_true hx
    rw [if_pos hx, v2n_nI (by omega)]
    split
    · dsimp only
      split
      · rw [show S 1 0 0 = adR S p (gR (rsP n t (8 - S 6 p 0) (.inl 0) []).2) (rsP n t (8 - S 6 p 0) (.inl 0) []).2.length 1 0 0 from by rw [adR_oth (by omega)]]
        refine opnI_HO (fun d hd h8 hne => ?_)
        rw [adR_oth (by omega)] at hd
        rw [adR_oth (a := 12) (by omega)] at h8 hne ⊢
        rw [may_cong (S := S) (by rw [adR_oth (by omega)]) (adR_off hne) (fun r => adR_off hne) (fun r => adR_off hne) (fun r => adR_off hne) (by rw [adR_oth (by omega)]) (by rw [adR_oth (by omega)])]
        exact hH d hd h8
      · exact hH
    · exact hH
  · rw [if_neg hx]; exact hH)
