/-! list, set, get -/
def goL (x n : Int32) : Prop := inR x 4 = true ∧ inR n 31 = true
def f_list (x n : Int32) : Int32 := if inR x 4 = true then (if n ≤ nI 30 then (if 0 ≤ n then 1 else -14) else -2) else -1
theorem goL_of {x n : Int32} (h1 : inR x 4 = true) (h2 : n ≤ nI 30) (h3 : 0 ≤ n) : goL x n := ⟨h1, inR_le (by omega) (Int32.not_lt.mpr h3) h2⟩
theorem goL_n {x n : Int32} (h : ¬ n ≤ nI 30) : ¬ goL x n := fun q => by have := inR_nle (x := n) (n := 30) (by omega) h; rw [q.2] at this; cases this
theorem goL_n2 {x n : Int32} (h : ¬ 0 ≤ n) : ¬ goL x n := fun q => by have := inR_f1 (x := n) (n := 31) (Int32.not_le.mp h); rw [q.2] at this; cases this
theorem SF_list (x n : Int32) (M : Mm) (Q : Po) (h0 : ¬ goL x n → Q M (some (.int (f_list x n)))) (h : ∀ l s M', l < 4 → s ≤ 30 → x = nI l → n = nI s → EqO [55, 56] M M' → M' 56 = upd (M 56) l (nI s) → M' 55 = clrR (M 55) l 30 → Q M' (some (.int 1))) : Call 60 mF_list [.ref 0, .int x, .int n] M Q := by
  unfold f_list at h0
  refine Call_of (m := mF_list) [some (.ref 0), some (.int x), some (.int n)] rfl (fun G => Nat.le_of_ble_eq_true rfl) (fun G => rfl) ?_
  refine g_aload_n dX9_list_0 rfl ?_
  refine g_getr (j := 10) dX9_list_1 gc9 rfl (by decide) rfl (by decide) fl_F_79 ?_
  refine g_iload_n dX9_list_4 rfl ?_
  refine g_call1 dX9_list_5 clW_isRow ml_F_317 gc6 rfl rfl (by decide) (Nat.le_of_ble_eq_true rfl) ?_
  refine SW_isRow x ?_
  refine g_if_ne_b 13 dX9_list_8 (by decide) (fun c8 => ?_) (fun c8 => ?_)
  · refine g_iload_n dX9_list_13 rfl ?_
    refine g_bipush (nI 30) dX9_list_14 kb_30 ?_
    refine g_icmp_le 22 dX9_list_16 (by decide) (fun c16 => ?_) (fun c16 => ?_)
    · refine g_iload_n dX9_list_22 rfl ?_
      refine g_if_ge 29 dX9_list_23 (by decide) (fun c23 => ?_) (fun c23 => ?_)
      · have e : inR n 31 = true := (goL_of c8 c16 c23).2
        obtain ⟨l, hl, rfl⟩ := inR_true c8
        obtain ⟨s, hs, rfl⟩ := inR_true e
        refine g_aload_n dX9_list_29 rfl ?_
        refine g_getr (j := 10) dX9_list_30 gc9 rfl (by decide) rfl (by decide) fl_F_79 ?_
        refine g_iload_n dX9_list_33 rfl ?_
        refine g_iload_n dX9_list_34 rfl ?_
        refine g_call2 dX9_list_35 clW_begin ml_F_320 gc6 rfl rfl (by decide) (Nat.le_of_ble_eq_true rfl) ?_
        refine SW_begin hl (by omega) (fun M' hE h1 h2 => ?_)
        refine g_iconst (nI 1) dX9_list_38 ki_1 ?_
        refine g_ireturn dX9_list_39 rfl (by first | rfl | exact nar_bI _) ?_
        exact h l s M' hl (by omega) rfl rfl hE h1 h2
      · have h0 := h0 (goL_n2 c23)
        rw [if_pos c8, if_pos c16, if_neg c23] at h0
        refine g_bipush ((-14)) dX9_list_26 kb_m14 ?_
        refine g_ireturn dX9_list_28 rfl (by first | rfl | exact nar_bI _) ?_
        exact h0
    · have h0 := h0 (goL_n c16)
      rw [if_pos c8, if_neg c16] at h0
      refine g_bipush ((-2)) dX9_list_19 kb_m2 ?_
      refine g_ireturn dX9_list_21 rfl (by first | rfl | exact nar_bI _) ?_
      exact h0
  · have h0 := h0 (fun q => by rw [q.1] at c8; cases c8)
    rw [if_neg (by rw [c8]; decide)] at h0
    refine g_iconst ((-1)) dX9_list_11 ki_m1 ?_
    refine g_ireturn dX9_list_12 rfl (by first | rfl | exact nar_bI _) ?_
    exact h0
theorem SM_isList {d : Nat} {M : Mm} {Q : Po} (x : Int32) (h : Q M (some (.int (bI (inR x 4))))) : Call (d + 2) mM_isList [.int x] M Q := by
  refine Call_of (m := mM_isList) [some (.int x)] rfl (fun G => Nat.le_of_ble_eq_true rfl) (fun G => rfl) ?_
  refine g_iload_n dX10_isList_0 rfl ?_
  refine g_i2l dX10_isList_1 ?_
  refine g_lconst (0) dX10_isList_2 (by decide) ?_
  refine g_ldc2w (3) dX10_isList_3 kl_M_76 ?_
  refine g_calls3 dX10_isList_6 clM_in ml_M_68 (Nat.le_of_ble_eq_true rfl) ?_
  refine SM_in _ _ _ ?_
  rw [inJ_L (n := 4) (by decide)]
  refine g_ireturn dX10_isList_9 rfl (by first | rfl | exact nar_bI _) ?_
  exact h
theorem SM_list (x n : Int32) (M : Mm) (Q : Po) (h0 : ¬ goL x n → Q M (some (.int (f_list x n)))) (h : ∀ l s M', l < 4 → s ≤ 30 → x = nI l → n = nI s → EqO [75, 76] M M' → M' 75 = upd (M 75) l (nI s) → M' 76 = clrR (M 76) l 30 → Q M' (some (.int 1))) : Call 60 mM_list [.ref 57, .int x, .int n] M Q := by
  unfold f_list at h0
  refine Call_of (m := mM_list) [some (.ref 57), some (.int x), some (.int n), none] rfl (fun G => Nat.le_of_ble_eq_true rfl) (fun G => rfl) ?_
  refine g_iload_n dX10_list_0 rfl ?_
  refine g_calls1 dX10_list_1 clM_isList ml_M_377 (Nat.le_of_ble_eq_true rfl) ?_
  refine SM_isList x ?_
  refine g_if_ne_b 9 dX10_list_4 (by decide) (fun c4 => ?_) (fun c4 => ?_)
  · refine g_iload_n dX10_list_9 rfl ?_
    refine g_bipush (nI 30) dX10_list_10 kb_30 ?_
    refine g_icmp_le 18 dX10_list_12 (by decide) (fun c12 => ?_) (fun c12 => ?_)
    · refine g_iload_n dX10_list_18 rfl ?_
      refine g_if_ge 25 dX10_list_19 (by decide) (fun c19 => ?_) (fun c19 => ?_)
      · have e : inR n 31 = true := (goL_of c4 c12 c19).2
        obtain ⟨l, hl, rfl⟩ := inR_true c4
        obtain ⟨s, hs, rfl⟩ := inR_true e
        refine g_aload_n dX10_list_25 rfl ?_
        refine g_getr (j := 32) dX10_list_26 gc10 rfl (by decide) rfl (by decide) fl_M_62 ?_
        refine g_iload_n dX10_list_29 rfl ?_
        refine g_iload_n dX10_list_30 rfl ?_
        refine g_iast_n dX10_list_31 (by first | rfl | assumption) (by first | decide | assumption) (by omega) (by omega) ?_
        refine g_iconst (nI 0) dX10_list_32 ki_0 ?_
        refine g_ist4_3 dX10_list_33 (by decide) rfl ?_
        refine loop_up (P := fun i => ∀ M', EqO [75, 76] M M' → M' 75 = upd (M 75) l (nI s) → M' 76 = clrR (M 76) l i → Go mM_list 60 Q 34 [some (.ref 57), some (.int (nI l)), some (.int (nI s)), some (.int (nI i))] [] M') 30 ?_ 0 (Nat.zero_le _) _ (EqO.set (by decide)) (mset_same _ _ _ _) (by rw [mset_ne (by decide), clrR_0])
        intro i hi ih M' hE h56 h55
        refine g_iload_n dX10_list_34 rfl ?_
        refine g_bipush (nI 30) dX10_list_35 kb_30 ?_
        refine g_icmp_ge_n 58 dX10_list_37 (by decide) (by omega) (by omega) (fun c37 => ?_) (fun c37 => ?_)
        · refine g_iconst (nI 1) dX10_list_58 ki_1 ?_
          refine g_ireturn dX10_list_59 rfl (by first | rfl | exact nar_bI _) ?_
          exact h l s M' hl (by omega) rfl rfl hE h56 (by rw [h55, show i = 30 by omega])
        · refine g_aload_n dX10_list_40 rfl ?_
          refine g_getr (j := 33) dX10_list_41 gc10 rfl (by decide) rfl (by decide) fl_M_65 ?_
          refine g_bipush (nI 30) dX10_list_44 kb_30 ?_
          refine g_iload_n dX10_list_46 rfl ?_
          first | refine g_imul_n dX10_list_47 ?_ | refine g_imul dX10_list_47 ?_
          refine g_iload_n dX10_list_48 rfl ?_
          first | refine g_iadd_n dX10_list_49 ?_ | refine g_iadd dX10_list_49 ?_
          refine g_iconst (nI 0) dX10_list_50 ki_0 ?_
          refine g_iast_n dX10_list_51 (by first | rfl | assumption) (by first | decide | assumption) (by omega) (by omega) ?_
          first | refine g_incn4_3 dX10_list_52 ki_1 (by decide) rfl ?_ | refine g_incg4_3 (nI 1) dX10_list_52 ki_1 (by decide) rfl ?_
          refine g_goto 34 dX10_list_55 (by decide) ?_
          refine ih (by omega) _ (hE.tr (EqO.set (by decide))) (by rw [mset_ne (by decide)]; exact h56) ?_
          rw [mset_same, h55]
          exact clrR_step (by omega)
      · have h0 := h0 (goL_n2 c19)
        rw [if_pos c4, if_pos c12, if_neg c19] at h0
        refine g_bipush ((-14)) dX10_list_22 kb_m14 ?_
        refine g_ireturn dX10_list_24 rfl (by first | rfl | exact nar_bI _) ?_
        exact h0
    · have h0 := h0 (goL_n c12)
      rw [if_pos c4, if_neg c12] at h0
      refine g_bipush ((-2)) dX10_list_15 kb_m2 ?_
      refine g_ireturn dX10_list_17 rfl (by first | rfl | exact nar_bI _) ?_
      exact h0
  · have h0 := h0 (fun q => by rw [q.1] at c4; cases c4)
    rw [if_neg (by rw [c4]; decide)] at h0
    refine g_iconst ((-1)) dX10_list_7 ki_m1 ?_
    refine g_ireturn dX10_list_8 rfl (by first | rfl | exact nar_bI _) ?_
    exact h0
theorem OT.rows {M M' : Mm} {b : Bool} {S' : BS} {n : Nat} {t : Nat → Nat} {pn : Nat} {pf : Nat → Nat} (h : OT M b S' n t pn pf) (hk : ∀ k j, okO k j → k ≠ 55 → k ≠ 56 → k ≠ 75 → k ≠ 76 → M' k j = M k j) (x1 : ∀ l, l < 4 → M' 75 l = M' 56 l ∧ szO (M' 56 l)) (x2 : ∀ i, i < 120 → M' 76 i = M' 55 i) : OT M' b S' n t pn pf := by
  unfold okO at hk
  obtain ⟨h1, h2, h3, h4, ⟨a1, a2, a3, a4, a5, a6⟩, ⟨b1, b2, b3, b4, b5, b6⟩, c1, c2, c3⟩ := h
  refine ⟨h1, h2, h3, h4, ⟨?_, fun hb => ?_, ?_, fun i hi => ?_, ?_, fun i hi => ?_⟩, ⟨?_, fun hb => ?_, ?_, fun i hi => ?_, ?_, fun i hi => ?_⟩, x1, x2, ⟨fun j hj => ?_, fun j hj => ?_⟩⟩
  · rw [hk 0 2 (by omega) (by omega) (by omega) (by omega) (by omega)]; exact a1
  · refine (a2 hb).keep (fun k j hr => ?_)
    have hk13 : 1 ≤ k ∧ k ≤ 13 := by unfold relB at hr; omega
    exact hk (k + 13) j (by omega) (by omega) (by omega) (by omega) (by omega)
  · rw [hk 41 1 (by omega) (by omega) (by omega) (by omega) (by omega)]; exact a3
  · rw [hk 42 i (by omega) (by omega) (by omega) (by omega) (by omega)]; exact a4 i hi
  · rw [hk 52 1 (by omega) (by omega) (by omega) (by omega) (by omega)]; exact a5
  · rw [hk 53 i (by omega) (by omega) (by omega) (by omega) (by omega)]; exact a6 i hi
  · rw [hk 57 2 (by omega) (by omega) (by omega) (by omega) (by omega)]; exact b1
  · rw [show M' 59 = M 59 from funext (fun j => hk 59 j (by omega) (by omega) (by omega) (by omega) (by omega))]; exact b2 hb
  · rw [hk 57 19 (by omega) (by omega) (by omega) (by omega) (by omega)]; exact b3
  · rw [hk 69 i (by omega) (by omega) (by omega) (by omega) (by omega)]; exact b4 i hi
  · rw [hk 57 31 (by omega) (by omega) (by omega) (by omega) (by omega)]; exact b5
  · rw [hk 74 i (by omega) (by omega) (by omega) (by omega) (by omega)]; exact b6 i hi
  · rw [hk 60 j (by omega) (by omega) (by omega) (by omega) (by omega)]; exact c3.1 j hj
  · rw [hk 61 j (by omega) (by omega) (by omega) (by omega) (by omega)]; exact c3.2 j hj
theorem OT.sz {M : Mm} {b : Bool} {S' : BS} {n : Nat} {t : Nat → Nat} {pn : Nat} {pf : Nat → Nat} (h : OT M b S' n t pn pf) {l : Nat} (hl : l < 4) : M 75 l = M 56 l ∧ szO (M 56 l) := h.2.2.2.2.2.2.1 l hl
theorem OT.cl {M : Mm} {b : Bool} {S' : BS} {n : Nat} {t : Nat → Nat} {pn : Nat} {pf : Nat → Nat} (h : OT M b S' n t pn pf) {i : Nat} (hi : i < 120) : M 76 i = M 55 i := h.2.2.2.2.2.2.2.1 i hi
/-- what lists change, both -/
theorem INV.rows {M M' : Mm} (h : INV M) (hk : ∀ k, k ≠ 55 → k ≠ 56 → k ≠ 62 → k ≠ 75 → k ≠ 76 → M' k = M k) (x1 : ∀ l, l < 4 → M' 75 l = M' 56 l ∧ szO (M' 56 l)) (x2 : ∀ i, i < 120 → M' 76 i = M' 55 i) : INV M' := by
  obtain ⟨S, b, S', n, t, pn, pf, h1, h2, h3, h4⟩ := h
  refine ⟨S, b, S', n, t, pn, pf, h1, h2.off (fun k k1 k2 => hk k (by omega) (by omega) (by omega) (by omega) (by omega)), ?_, h4.rows (fun k j hq n1 n2 n3 n4 => ?_) x1 x2⟩
  · rw [hk 58 (by decide) (by decide) (by decide) (by decide) (by decide)]; exact h3
  · rw [hk k n1 n2 (by unfold okO at hq; omega) n3 n4]
theorem both_list (x n : Int32) : Both mF_list mM_list [.int x, .int n] := by
  intro M hI
  refine SF_list x n M _ (fun z => ⟨IsI.rf, SM_list x n M _ (fun _ => ⟨TyI.rf, hI⟩) (fun l s M' hl hs e1 e2 => absurd (by subst e1; subst e2; exact ⟨by rw [inR_nI (by omega)]; exact decide_eq_true hl, by rw [inR_nI (by omega)]; exact decide_eq_true (by omega)⟩) z)⟩) (fun l s M1 hl hs e1 e2 hE1 h1 h2 => ?_)
  subst e1
  subst e2
  refine ⟨IsI.rf, ?_⟩
  refine SM_list _ _ M1 _ (fun z => absurd ⟨by rw [inR_nI (by omega)]; exact decide_eq_true hl, by rw [inR_nI (by omega)]; exact decide_eq_true (by omega)⟩ z) (fun l2 s2 M2 hl2 hs2 e1 e2 hE2 h3 h4 => ⟨TyI.rf, ?_⟩)
  obtain rfl : l = l2 := (nI_eq (by omega) (by omega)).mp e1
  obtain rfl : s = s2 := (nI_eq (by omega) (by omega)).mp e2
  have hE := (hE1.sub (L' := [55, 56, 75, 76]) (by decide)).tr (hE2.sub (L' := [55, 56, 75, 76]) (by decide))
  obtain ⟨S, b, S', tn, t, pn, pf, i1, i2, i3, i4⟩ := id hI
  refine hI.rows (fun k n1 n2 n3 n4 n5 => hE k (by simp only [List.mem_cons, List.not_mem_nil, or_false]; omega)) (fun k hk => ?_) (fun i hi => ?_)
  · rw [h3, hE2 56 (by decide), h1, hE1 75 (by decide)]
    by_cases e : k = l
    · subst e; rw [upd_at, upd_at]; exact ⟨rfl, Or.inr ⟨s, hs, rfl⟩⟩
    · rw [upd_off e, upd_off e]; exact i4.sz hk
  · rw [h4, hE2 55 (by decide), h2, hE1 76 (by decide)]
    unfold clrR
    rw [i4.cl hi]
theorem SF_setL {l : Nat} (i v : Int32) (M : Mm) (Q : Po) (hl : l < 4) (hs : szO (M 56 l)) (h : ∀ M', EqO [55] M M' → M' 55 = putR (M 55) (M 56 l) l i v → Q M' (some (.int (if M 56 l = -1 then -11 else if inR i (v2n (M 56 l)) = true then 1 else -13)))) : Call 60 mF_set [.ref 0, .int (nI l), .int i, .int v] M Q := by
  refine Call_of (m := mF_set) [some (.ref 0), some (.int (nI l)), some (.int i), some (.int v)] rfl (fun G => Nat.le_of_ble_eq_true rfl) (fun G => rfl) ?_
  refine g_aload_n dX9_set_0 rfl ?_
  refine g_getr (j := 10) dX9_set_1 gc9 rfl (by decide) rfl (by decide) fl_F_79 ?_
  refine g_iload_n dX9_set_4 rfl ?_
  refine g_call1 dX9_set_5 clW_isRow ml_F_317 gc6 rfl rfl (by decide) (Nat.le_of_ble_eq_true rfl) ?_
  refine SW_isRowT hl ?_
  refine g_if_ne_tt 13 dX9_set_8 (by decide) ?_
  refine g_aload_n dX9_set_13 rfl ?_
  refine g_getr (j := 10) dX9_set_14 gc9 rfl (by decide) rfl (by decide) fl_F_79 ?_
  refine g_iload_n dX9_set_17 rfl ?_
  refine g_call1 dX9_set_18 clW_isHeld ml_F_323 gc6 rfl rfl (by decide) (Nat.le_of_ble_eq_true rfl) ?_
  refine SW_isHeld hl ?_
  refine g_if_ne_b 27 dX9_set_21 (by decide) (fun c21 => ?_) (fun c21 => ?_)
  · have c21 := of_decide_eq_true c21
    refine g_aload_n dX9_set_27 rfl ?_
    refine g_getr (j := 10) dX9_set_28 gc9 rfl (by decide) rfl (by decide) fl_F_79 ?_
    refine g_iload_n dX9_set_31 rfl ?_
    refine g_iload_n dX9_set_32 rfl ?_
    refine g_iload_n dX9_set_33 rfl ?_
    refine g_call3 dX9_set_34 clW_put ml_F_326 gc6 rfl rfl (by decide) (Nat.le_of_ble_eq_true rfl) ?_
    refine SW_put hl i v hs (fun M' hE h1 => ?_)
    have h := h M' hE h1
    rw [if_neg c21] at h
    refine g_if_eq_b 44 dX9_set_37 (by decide) (fun c37 => ?_) (fun c37 => ?_)
    · rw [if_neg (by rw [c37]; decide)] at h
      refine g_bipush ((-13)) dX9_set_44 kb_m13 ?_
      refine g_ireturn dX9_set_46 rfl (by first | rfl | exact nar_bI _) ?_
      exact h
    · rw [if_pos c37] at h
      refine g_iconst (nI 1) dX9_set_40 ki_1 ?_
      refine g_goto 46 dX9_set_41 (by decide) ?_
      refine g_ireturn dX9_set_46 rfl (by first | rfl | exact nar_bI _) ?_
      exact h
  · have c21 : M 56 l = -1 := Decidable.not_not.mp (of_decide_eq_false c21)
    have h := h M EqO.rf (by unfold putR; rw [c21, show v2n (-1) = 0 from rfl, inR_0]; rfl)
    rw [if_pos c21] at h
    refine g_bipush ((-11)) dX9_set_24 kb_m11 ?_
    refine g_ireturn dX9_set_26 rfl (by first | rfl | exact nar_bI _) ?_
    exact h
theorem SM_setL {l : Nat} (i v : Int32) (M : Mm) (Q : Po) (hl : l < 4) (hs : szO (M 75 l)) (h : ∀ M', EqO [76] M M' → M' 76 = putR (M 76) (M 75 l) l i v → Q M' (some (.int (if M 75 l = -1 then -11 else if inR i (v2n (M 75 l)) = true then 1 else -13)))) : Call 60 mM_set [.ref 57, .int (nI l), .int i, .int v] M Q := by
  refine Call_of (m := mM_set) [some (.ref 57), some (.int (nI l)), some (.int i), some (.int v)] rfl (fun G => Nat.le_of_ble_eq_true rfl) (fun G => rfl) ?_
  refine g_iload_n dX10_set_0 rfl ?_
  refine g_calls1 dX10_set_1 clM_isList ml_M_377 (Nat.le_of_ble_eq_true rfl) ?_
  refine SM_isList _ ?_
  rw [inR_nI (by omega), decide_eq_true hl]
  rcases hs with e | ⟨s, hs, e⟩
  · have h := h M EqO.rf (by unfold putR; rw [e, show v2n (-1) = 0 from rfl, inR_0]; rfl)
    rw [if_pos e] at h
    refine g_if_ne_tt 9 dX10_set_4 (by decide) ?_
    refine g_aload_n dX10_set_9 rfl ?_
    refine g_getr (j := 32) dX10_set_10 gc10 rfl (by decide) rfl (by decide) fl_M_62 ?_
    refine g_iload_n dX10_set_13 rfl ?_
    refine g_iald_n dX10_set_14 (by first | rfl | assumption) (by first | decide | assumption) (by omega) (by omega) ?_
    try simp (disch := omega) only [e]
    refine g_if_ge 21 dX10_set_15 (by decide) (fun c15 => ?_) (fun c15 => ?_)
    · exact absurd c15 (by decide)
    · refine g_bipush ((-11)) dX10_set_18 kb_m11 ?_
      refine g_ireturn dX10_set_20 rfl (by first | rfl | exact nar_bI _) ?_
      exact h
  · have n1 : ¬ M 75 l = -1 := by rw [e]; exact nI_m1 (by omega)
    rw [if_neg n1, e, v2n_nI (by omega)] at h
    refine g_if_ne_tt 9 dX10_set_4 (by decide) ?_
    refine g_aload_n dX10_set_9 rfl ?_
    refine g_getr (j := 32) dX10_set_10 gc10 rfl (by decide) rfl (by decide) fl_M_62 ?_
    refine g_iload_n dX10_set_13 rfl ?_
    refine g_iald_n dX10_set_14 (by first | rfl | assumption) (by first | decide | assumption) (by omega) (by omega) ?_
    try simp (disch := omega) only [e]
    refine g_if_ge_n 21 dX10_set_15 (by decide) (by omega) ?_
    refine g_iload_n dX10_set_21 rfl ?_
    refine g_i2l dX10_set_22 ?_
    refine g_lconst (0) dX10_set_23 (by decide) ?_
    refine g_aload_n dX10_set_24 rfl ?_
    refine g_getr (j := 32) dX10_set_25 gc10 rfl (by decide) rfl (by decide) fl_M_62 ?_
    refine g_iload_n dX10_set_28 rfl ?_
    refine g_iald_n dX10_set_29 (by first | rfl | assumption) (by first | decide | assumption) (by omega) (by omega) ?_
    try simp (disch := omega) only [e]
    refine g_iconst (nI 1) dX10_set_30 ki_1 ?_
    first | refine g_isub_n dX10_set_31 (by omega) ?_ | refine g_isub dX10_set_31 ?_
    refine g_i2l dX10_set_32 ?_
    refine g_calls3 dX10_set_33 clM_in ml_M_68 (Nat.le_of_ble_eq_true rfl) ?_
    refine SM_in _ _ _ ?_
    rw [inJ_R (by omega)]
    refine g_if_ne_b 42 dX10_set_36 (by decide) (fun c36 => ?_) (fun c36 => ?_)
    · obtain ⟨a, ha, rfl⟩ := inR_true c36
      rw [if_pos c36] at h
      refine g_aload_n dX10_set_42 rfl ?_
      refine g_getr (j := 33) dX10_set_43 gc10 rfl (by decide) rfl (by decide) fl_M_65 ?_
      refine g_bipush (nI 30) dX10_set_46 kb_30 ?_
      refine g_iload_n dX10_set_48 rfl ?_
      first | refine g_imul_n dX10_set_49 ?_ | refine g_imul dX10_set_49 ?_
      refine g_iload_n dX10_set_50 rfl ?_
      first | refine g_iadd_n dX10_set_51 ?_ | refine g_iadd dX10_set_51 ?_
      refine g_iload_n dX10_set_52 rfl ?_
      refine g_iast_n dX10_set_53 (by first | rfl | assumption) (by first | decide | assumption) (by omega) (by omega) ?_
      refine g_iconst (nI 1) dX10_set_54 ki_1 ?_
      refine g_ireturn dX10_set_55 rfl (by first | rfl | exact nar_bI _) ?_
      refine h _ (EqO.set (by decide)) ?_
      rw [mset_same]
      unfold putR
      rw [v2n_nI (n := s) (by omega), if_pos c36, v2n_nI (by omega), show 30 * l + a = l * 30 + a by omega]
    · rw [if_neg (by rw [c36]; decide)] at h
      refine g_bipush ((-13)) dX10_set_39 kb_m13 ?_
      refine g_ireturn dX10_set_41 rfl (by first | rfl | exact nar_bI _) ?_
      refine h M EqO.rf ?_
      unfold putR
      rw [v2n_nI (n := s) (by omega), if_neg (by rw [c36]; decide)]
theorem both_set (x i v : Int32) : Both mF_set mM_set [.int x, .int i, .int v] := by
  intro M hI
  by_cases hx : inR x 4 = true
  · obtain ⟨l, hl, rfl⟩ := inR_true hx
    obtain ⟨S, b, S', tn, t, pn, pf, i1, i2, i3, i4⟩ := id hI
    have hz := i4.sz hl
    refine SF_setL i v M _ hl hz.2 (fun M1 hE1 h1 => ?_)
    have e75 : M1 75 l = M 56 l := by rw [hE1 75 (by decide)]; exact hz.1
    refine ⟨IsI.rf, ?_⟩
    refine SM_setL i v M1 _ hl (by rw [e75]; exact hz.2) (fun M2 hE2 h2 => ⟨TyI.of (by rw [e75]), ?_⟩)
    rw [e75, hE1 76 (by decide)] at h2
    have hE := (hE1.sub (L' := [55, 76]) (by decide)).tr (hE2.sub (L' := [55, 76]) (by decide))
    refine hI.rows (fun k n1 n2 n3 n4 n5 => hE k (by simp only [List.mem_cons, List.not_mem_nil, or_false]; omega)) (fun k hk => ?_) (fun j hj => ?_)
    · rw [hE 75 (by decide), hE 56 (by decide)]; exact i4.sz hk
    · rw [h2, hE2 55 (by decide), h1]
      unfold putR
      split
      · rename_i q
        by_cases e : j = l * 30 + v2n i
        · subst e; rw [upd_at, upd_at]
        · rw [upd_off e, upd_off e]; exact i4.cl hj
      · exact i4.cl hj
  · have e := Bool.eq_false_iff.mpr hx
    refine Call_of (m := mF_set) [some (.ref 0), some (.int x), some (.int i), some (.int v)] rfl (fun G => Nat.le_of_ble_eq_true rfl) (fun G => rfl) ?_
    refine g_aload_n dX9_set_0 rfl ?_
    refine g_getr (j := 10) dX9_set_1 gc9 rfl (by decide) rfl (by decide) fl_F_79 ?_
    refine g_iload_n dX9_set_4 rfl ?_
    refine g_call1 dX9_set_5 clW_isRow ml_F_317 gc6 rfl rfl (by decide) (Nat.le_of_ble_eq_true rfl) ?_
    refine SW_isRow x ?_
    rw [e]
    refine g_if_ne_ff 13 dX9_set_8 (by decide) ?_
    refine g_iconst ((-1)) dX9_set_11 ki_m1 ?_
    refine g_ireturn dX9_set_12 rfl (by first | rfl | exact nar_bI _) ?_
    refine ⟨IsI.rf, ?_⟩
    refine Call_of (m := mM_set) [some (.ref 57), some (.int x), some (.int i), some (.int v)] rfl (fun G => Nat.le_of_ble_eq_true rfl) (fun G => rfl) ?_
    refine g_iload_n dX10_set_0 rfl ?_
    refine g_calls1 dX10_set_1 clM_isList ml_M_377 (Nat.le_of_ble_eq_true rfl) ?_
    refine SM_isList x ?_
    rw [e]
    refine g_if_ne_ff 9 dX10_set_4 (by decide) ?_
    refine g_iconst ((-1)) dX10_set_7 ki_m1 ?_
    refine g_ireturn dX10_set_8 rfl (by first | rfl | exact nar_bI _) ?_
    exact ⟨TyI.rf, hI⟩
/-- get answers a long -/
def TyL (r1 r2 : Option Value) : Prop := ∃ v : Int64, r1 = some (.long v) ∧ r2 = some (.long v)
theorem TyL.ofs {v w : Int64} (h : (some (.long w) : Option Value) = some (.long v)) : TyL (some (.long v)) (some (.long w)) := ⟨v, rfl, h⟩
def IsL (r : Option Value) : Prop := ∃ v : Int64, r = some (.long v)
theorem IsL.rf {v : Int64} : IsL (some (.long v)) := ⟨v, rfl⟩
def BothL (yF yM : Me) (args : List Value) : Prop := ∀ M, INV M → Call 60 yF (.ref 0 :: args) M (fun M1 r1 => IsL r1 ∧ Call 60 yM (.ref 57 :: args) M1 (fun M2 r2 => TyL r1 r2 ∧ INV M2))
theorem both_get (x i : Int32) : BothL mF_get mM_get [.int x, .int i] := by
  intro M hI
  obtain ⟨S, b, S', tn, t, pn, pf, i1, i2, i3, i4⟩ := id hI
  by_cases hx : inR x 4 = true
  · obtain ⟨l, hl, rfl⟩ := inR_true hx
    have hz := i4.sz hl
    refine Call_of (m := mF_get) [some (.ref 0), some (.int (nI l)), some (.int i)] rfl (fun G => Nat.le_of_ble_eq_true rfl) (fun G => rfl) ?_
    refine g_aload_n dX9_get_0 rfl ?_
    refine g_getr (j := 10) dX9_get_1 gc9 rfl (by decide) rfl (by decide) fl_F_79 ?_
    refine g_iload_n dX9_get_4 rfl ?_
    refine g_iload_n dX9_get_5 rfl ?_
    refine g_call2 dX9_get_6 clW_at ml_F_330 gc6 rfl rfl (by decide) (Nat.le_of_ble_eq_true rfl) ?_
    refine SW_at hl i hz.2 ?_
    refine g_lreturn dX9_get_9 rfl ?_
    refine ⟨IsL.rf, ?_⟩
    refine Call_of (m := mM_get) [some (.ref 57), some (.int (nI l)), some (.int i)] rfl (fun G => Nat.le_of_ble_eq_true rfl) (fun G => rfl) ?_
    refine g_iload_n dX10_get_0 rfl ?_
    refine g_calls1 dX10_get_1 clM_isList ml_M_377 (Nat.le_of_ble_eq_true rfl) ?_
    refine SM_isList _ ?_
    rw [inR_nI (by omega), decide_eq_true hl]
    rcases hz.2 with e | ⟨s, hs, e⟩
    · have e2 : M 75 l = -1 := hz.1.trans e
      refine g_if_eq_tt 40 dX10_get_4 (by decide) ?_
      refine g_iload_n dX10_get_7 rfl ?_
      refine g_i2l dX10_get_8 ?_
      refine g_lconst (0) dX10_get_9 (by decide) ?_
      refine g_aload_n dX10_get_10 rfl ?_
      refine g_getr (j := 32) dX10_get_11 gc10 rfl (by decide) rfl (by decide) fl_M_62 ?_
      refine g_iload_n dX10_get_14 rfl ?_
      refine g_iald_n dX10_get_15 (by first | rfl | assumption) (by first | decide | assumption) (by omega) (by omega) ?_
      try simp (disch := omega) only [e2]
      refine g_iconst (nI 1) dX10_get_16 ki_1 ?_
      refine g_isub dX10_get_17 ?_
      refine g_i2l dX10_get_18 ?_
      refine g_calls3 dX10_get_19 clM_in ml_M_68 (Nat.le_of_ble_eq_true rfl) ?_
      refine SM_in _ _ _ ?_
      rw [show inJ i.toInt64 0 (-1 - nI 1).toInt64 = false from ?_]
      rotate_left
      · unfold inJ
        rw [Int32.toInt_toInt64, show (-1 - nI 1).toInt64 = -2 from by decide, show (0 : Int64).toInt = 0 from by decide, show (-2 : Int64).toInt = -2 from by decide]
        exact decide_eq_false (by omega)
      refine g_if_eq_ff 40 dX10_get_22 (by decide) ?_
      refine g_ldc2w (-9223372036854775808) dX10_get_40 kl_M_382 ?_
      refine g_lreturn dX10_get_43 rfl ?_
      refine ⟨TyL.ofs ?_, hI⟩
      unfold atR
      rw [e, show v2n (-1) = 0 from rfl, inR_0]
      rfl
    · have e2 : M 75 l = nI s := hz.1.trans e
      skip
      refine g_if_eq_tt 40 dX10_get_4 (by decide) ?_
      refine g_iload_n dX10_get_7 rfl ?_
      refine g_i2l dX10_get_8 ?_
      refine g_lconst (0) dX10_get_9 (by decide) ?_
      refine g_aload_n dX10_get_10 rfl ?_
      refine g_getr (j := 32) dX10_get_11 gc10 rfl (by decide) rfl (by decide) fl_M_62 ?_
      refine g_iload_n dX10_get_14 rfl ?_
      refine g_iald_n dX10_get_15 (by first | rfl | assumption) (by first | decide | assumption) (by omega) (by omega) ?_
      try simp (disch := omega) only [e2]
      refine g_iconst (nI 1) dX10_get_16 ki_1 ?_
      first | refine g_isub_n dX10_get_17 (by omega) ?_ | refine g_isub dX10_get_17 ?_
      refine g_i2l dX10_get_18 ?_
      refine g_calls3 dX10_get_19 clM_in ml_M_68 (Nat.le_of_ble_eq_true rfl) ?_
      refine SM_in _ _ _ ?_
      rw [inJ_R (by omega)]
      refine g_if_eq_b 40 dX10_get_22 (by decide) (fun c22 => ?_) (fun c22 => ?_)
      · refine g_ldc2w (-9223372036854775808) dX10_get_40 kl_M_382 ?_
        refine g_lreturn dX10_get_43 rfl ?_
        refine ⟨TyL.ofs ?_, hI⟩
        unfold atR
        rw [e, v2n_nI (by omega), if_neg (by rw [c22]; decide)]
      · obtain ⟨a, ha, rfl⟩ := inR_true c22
        refine g_aload_n dX10_get_25 rfl ?_
        refine g_getr (j := 33) dX10_get_26 gc10 rfl (by decide) rfl (by decide) fl_M_65 ?_
        refine g_bipush (nI 30) dX10_get_29 kb_30 ?_
        refine g_iload_n dX10_get_31 rfl ?_
        first | refine g_imul_n dX10_get_32 ?_ | refine g_imul dX10_get_32 ?_
        refine g_iload_n dX10_get_33 rfl ?_
        first | refine g_iadd_n dX10_get_34 ?_ | refine g_iadd dX10_get_34 ?_
        refine g_iald_n dX10_get_35 (by first | rfl | assumption) (by first | decide | assumption) (by omega) (by omega) ?_
        try simp (disch := omega) only [e2]
        refine g_i2l dX10_get_36 ?_
        refine g_goto 43 dX10_get_37 (by decide) ?_
        refine g_lreturn dX10_get_43 rfl ?_
        refine ⟨TyL.ofs ?_, hI⟩
        unfold atR
        rw [e, v2n_nI (by omega), if_pos c22, v2n_nI (by omega), i4.cl (by omega), show 30 * l + a = l * 30 + a by omega]
  · have e := Bool.eq_false_iff.mpr hx
    refine Call_of (m := mF_get) [some (.ref 0), some (.int x), some (.int i)] rfl (fun G => Nat.le_of_ble_eq_true rfl) (fun G => rfl) ?_
    refine g_aload_n dX9_get_0 rfl ?_
    refine g_getr (j := 10) dX9_get_1 gc9 rfl (by decide) rfl (by decide) fl_F_79 ?_
    refine g_iload_n dX9_get_4 rfl ?_
    refine g_iload_n dX9_get_5 rfl ?_
    refine g_call2 dX9_get_6 clW_at ml_F_330 gc6 rfl rfl (by decide) (Nat.le_of_ble_eq_true rfl) ?_
    have hat : ∀ Q : Po, Q M (some (.long (-9223372036854775808))) → Call 59 mW_at [.ref 54, .int x, .int i] M Q := by
      intro Q h
      refine Call_of (m := mW_at) [some (.ref 54), some (.int x), some (.int i)] rfl (fun G => Nat.le_of_ble_eq_true rfl) (fun G => rfl) ?_
      refine g_aload_n dX6_at_0 rfl ?_
      refine g_iload_n dX6_at_1 rfl ?_
      refine g_iload_n dX6_at_2 rfl ?_
      refine g_call2 dX6_at_3 clW_isPlace ml_W_25 gc6 rfl rfl (by decide) (Nat.le_of_ble_eq_true rfl) ?_
      refine Call_of (m := mW_isPlace) [some (.ref 54), some (.int x), some (.int i)] rfl (fun G => Nat.le_of_ble_eq_true rfl) (fun G => rfl) ?_
      refine g_aload_n dX6_isPlace_0 rfl ?_
      refine g_iload_n dX6_isPlace_1 rfl ?_
      refine g_call1 dX6_isPlace_2 clW_isHeld ml_W_22 gc6 rfl rfl (by decide) (Nat.le_of_ble_eq_true rfl) ?_
      refine Call_of (m := mW_isHeld) [some (.ref 54), some (.int x)] rfl (fun G => Nat.le_of_ble_eq_true rfl) (fun G => rfl) ?_
      refine g_aload_n dX6_isHeld_0 rfl ?_
      refine g_iload_n dX6_isHeld_1 rfl ?_
      refine g_call1 dX6_isHeld_2 clW_isRow ml_W_18 gc6 rfl rfl (by decide) (Nat.le_of_ble_eq_true rfl) ?_
      refine SW_isRow x ?_
      rw [e]
      refine g_if_eq_ff 22 dX6_isHeld_5 (by decide) ?_
      refine g_iconst (nI 0) dX6_isHeld_22 ki_0 ?_
      refine g_ireturn dX6_isHeld_23 rfl (by first | rfl | exact nar_bI _) ?_
      refine g_if_eq_ff 32 dX6_isPlace_5 (by decide) ?_
      refine g_iconst (nI 0) dX6_isPlace_32 ki_0 ?_
      refine g_ireturn dX6_isPlace_33 rfl (by first | rfl | exact nar_bI _) ?_
      refine g_if_eq_ff 24 dX6_at_6 (by decide) ?_
      refine g_ldc2w (-9223372036854775808) dX6_at_24 kl_W_29 ?_
      refine g_lreturn dX6_at_27 rfl ?_
      exact h
    refine hat _ ?_
    refine g_lreturn dX9_get_9 rfl ?_
    refine ⟨IsL.rf, ?_⟩
    refine Call_of (m := mM_get) [some (.ref 57), some (.int x), some (.int i)] rfl (fun G => Nat.le_of_ble_eq_true rfl) (fun G => rfl) ?_
    refine g_iload_n dX10_get_0 rfl ?_
    refine g_calls1 dX10_get_1 clM_isList ml_M_377 (Nat.le_of_ble_eq_true rfl) ?_
    refine SM_isList x ?_
    rw [e]
    refine g_if_eq_ff 40 dX10_get_4 (by decide) ?_
    refine g_ldc2w (-9223372036854775808) dX10_get_40 kl_M_382 ?_
    refine g_lreturn dX10_get_43 rfl ?_
    exact ⟨TyL.ofs rfl, hI⟩
