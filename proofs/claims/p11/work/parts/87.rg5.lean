/-! RINGS in the class: tryRing -/
theorem BM_keep {S : BS} {M : Mm} {P P' : Nat → RW → Prop} {m g : Nat} {b : RW} (h : BM S M P m b g) (hp : ∀ s q, P' s q → ringOK S q s → P s q ∨ gnR S q s ≤ 0 ∨ (m ≠ 0 ∧ (sameR m b s q ∨ btR S m b s q))) (h2 : ringOK S b m → P m b → P' m b) : BM S M P' m b g := by
  obtain ⟨h8, h9, hm4, hg, h0, hgn, h40, hb⟩ := h
  exact ⟨h8, h9, hm4, hg, h0, hgn, h40, Bst_keep hb hp h2⟩
theorem try_no {S : BS} {M : Mm} {P : Nat → RW → Prop} {m g n G : Nat} {b r : RW} (h : BM S M P m b g) (hn : 0 < n) (hG : (G : Int) = gnR S r n) (hG0 : 0 < G) (hP : ∀ s q, P s q → ringOK S q s → s = n → q 0 = r 0 → lexR n q r) (hno : ¬ (g < G ∨ (G = g ∧ (n < m ∨ (n = m ∧ r 0 < b 0))))) : BM S M (fun s q => P s q ∨ sameR n r s q) m b g := by
  refine BM_keep h (fun s q hs hr => ?_) (fun _ h => Or.inl h)
  rcases hs with hs | hs
  · exact Or.inl hs
  · obtain ⟨h8, h9, hm4, hg, h0, hgn, h40, hb⟩ := h
    have hm0 : m ≠ 0 := fun z => by have := h0 z; omega
    have hgn := hgn (by omega)
    refine Or.inr (Or.inr ⟨hm0, Or.inr (bt_same (s := n) (q := r) ?_ hs hn)⟩)
    unfold btR
    by_cases z : G = g
    · refine Or.inr ⟨by omega, ?_⟩
      by_cases y : m < n
      · exact Or.inl y
      · have e : m = n := by omega
        refine Or.inr ⟨e, ?_⟩
        by_cases x : b 0 < r 0
        · exact ⟨0, by omega, fun i hi => absurd hi (by omega), x⟩
        · rcases hb with ⟨b1, _⟩ | ⟨b1, b2, b3, b4⟩
          · exact absurd b1 hm0
          · rw [e]
            exact hP m b b3 b1 e (by omega)
    · exact Or.inl (by omega)
theorem try_yes {S : BS} {M M' : Mm} {P : Nat → RW → Prop} {m g n G : Nat} {b r : RW} (h : BM S M P m b g) (hr : ringOK S r n) (hw : S 1 0 0 ≤ 24) (hG : (G : Int) = gnR S r n) (hG0 : 0 < G ∧ G ≤ 100) (hyes : g < G ∨ (G = g ∧ (n < m ∨ (n = m ∧ r 0 < b 0)))) (m8 : M' 35 8 = nI n) (m9 : M' 35 9 = nI G) (m40 : ∀ i, i < n → M' 40 i = nI (r i)) : BM S M' (fun s q => P s q ∨ sameR n r s q) n r G := by
  obtain ⟨h8, h9, hm4, hg, h0, hgn, h40, hb⟩ := h
  have hn := hr.1
  refine ⟨m8, m9, hr.2.1, hG0.2, fun z => by omega, fun _ => hG, fun i hi => ⟨m40 i hi, by have := (hr.2.2.1 i hi).1; omega⟩, Bst_new hb hr (by omega) ?_ (fun u p hu _ => ?_) (Or.inr ⟨rfl, fun _ _ => rfl⟩)⟩
  · by_cases hm0 : m = 0
    · exact Or.inl hm0
    · have hgn := hgn (by omega)
      refine Or.inr ?_
      unfold btR
      rcases hyes with z | ⟨z, z2⟩
      · exact Or.inl (by omega)
      · refine Or.inr ⟨by omega, ?_⟩
        rcases z2 with z2 | ⟨z2, z3⟩
        · exact Or.inl z2
        · exact Or.inr ⟨z2, 0, by omega, fun i hi => absurd hi (by omega), z3⟩
  · rcases hu with hu | hu
    · exact Or.inl hu
    · exact Or.inr (Or.inr hu)
theorem BM.off {S : BS} {M M' : Mm} {P : Nat → RW → Prop} {m g : Nat} {b : RW} (h : BM S M P m b g) (h1 : ∀ j, j = 8 ∨ j = 9 → M' 35 j = M 35 j) (h2 : M' 40 = M 40) : BM S M' P m b g := by
  obtain ⟨h8, h9, hm4, hg, h0, hgn, h40, hb⟩ := h
  exact ⟨by rw [h1 8 (by omega)]; exact h8, by rw [h1 9 (by omega)]; exact h9, hm4, hg, h0, hgn, fun i hi => by rw [h2]; exact h40 i hi, hb⟩
theorem SG_tryRing {d : Nat} {M : Mm} {S : BS} {Q : Po} {P : Nat → RW → Prop} {k hc mc n m g : Nat} {b : RW} {hl x : Nat → Nat} {v : Int32} (hR : RG S M k hc hl mc) (hW : WF S) (hM : BM S M P m b g) (hn : 2 ≤ n ∧ n ≤ 4) (hx : ∀ i, i < n → M 39 i = nI (x i) ∧ x i < hc) (hrow : rowOK S (fun i => hl (x i)) n) (hv : v.toInt = pgR S (fun i => hl (x i)) n) (hpb : -40 ≤ pgR S (fun i => hl (x i)) n ∧ pgR S (fun i => hl (x i)) n ≤ 40) (hP : ∀ s q, P s q → ringOK S q s → s = n → q 0 = hl (x 0) → lexR n q (fun i => hl (x i))) (h : ∀ M' m' b' g', EqO [35, 40] M M' → (∀ j, j ≠ 8 → j ≠ 9 → M' 35 j = M 35 j) → BM S M' (fun s q => P s q ∨ sameR n (fun i => hl (x i)) s q) m' b' g' → Q M' none) : Call (d + 3) mG_tryRing [.ref 35, .int (nI n), .int v] M Q := by
  have hw := hW.nd
  have hx0 := hx 0 (by omega)
  have hxl := hx (n - 1) (by omega)
  have hl24 := (hR.1.2.1 (x (n - 1)) hxl.2).1
  have hdl := dlv_le hW (q := S 12 (hl (x 0)) 0) (d := hl (x (n - 1))) (by omega)
  refine Call_of (m := mG_tryRing) [some (.ref 35), some (.int (nI n)), some (.int v), none, none, none] rfl (fun G => Nat.le_of_ble_eq_true rfl) (fun G => rfl) ?_
  refine g_iload_n dX5_tryRing_0 rfl ?_
  refine g_iconst (nI 2) dX5_tryRing_1 ki_2 ?_
  refine g_icmp_lt_n 10 dX5_tryRing_2 (by decide) (by omega) (by omega) (fun c2 => ?_) (fun c2 => ?_)
  · exact absurd hn (by omega)
  · refine g_iload_n dX5_tryRing_5 rfl ?_
    refine g_iconst (nI 4) dX5_tryRing_6 ki_4 ?_
    refine g_icmp_le_n 11 dX5_tryRing_7 (by decide) (by omega) (by omega) (fun c7 => ?_) (fun c7 => ?_)
    · refine g_aload_n dX5_tryRing_11 rfl ?_
      refine g_aload_n dX5_tryRing_12 rfl ?_
      refine g_getr (j := 4) dX5_tryRing_13 gc5 rfl (by decide) rfl (by decide) fl_G_21 ?_
      refine g_iconst (nI 0) dX5_tryRing_16 ki_0 ?_
      refine g_iald_n dX5_tryRing_17 (by first | rfl | assumption) (by first | decide | assumption) (by omega) (by omega) ?_
      try simp (disch := omega) only [hx0.1, hxl.1]
      refine g_aload_n dX5_tryRing_18 rfl ?_
      refine g_getr (j := 4) dX5_tryRing_19 gc5 rfl (by decide) rfl (by decide) fl_G_21 ?_
      refine g_iload_n dX5_tryRing_22 rfl ?_
      refine g_iconst (nI 1) dX5_tryRing_23 ki_1 ?_
      first | refine g_isub_n dX5_tryRing_24 (by omega) ?_ | refine g_isub dX5_tryRing_24 ?_
      refine g_iald_n dX5_tryRing_25 (by first | rfl | assumption) (by first | decide | assumption) (by omega) (by omega) ?_
      try simp (disch := omega) only [hx0.1, hxl.1]
      refine g_call2 dX5_tryRing_26 clG_costOf ml_G_51 gc5 rfl rfl (by decide) (Nat.le_of_ble_eq_true rfl) ?_
      refine SG_costOf hR hw hx0.2 hxl.2 ?_
      unfold cstR
      by_cases hmy : mayB S (S 12 (hl (x 0)) 0) (hl (x (n - 1))) = true
      · rw [if_pos hmy]
        have hgn : (v - nI (dlv S (S 12 (hl (x 0)) 0) (hl (x (n - 1))))).toInt = gnR S (fun i => hl (x i)) n := by
          have z := t_sub hv (nI_toInt (n := dlv S (S 12 (hl (x 0)) 0) (hl (x (n - 1)))) (by omega)) (by omega)
          exact z
        have hgb : gnR S (fun i => hl (x i)) n ≤ 100 := by unfold gnR lstR; omega
        generalize dlv S (S 12 (hl (x 0)) 0) (hl (x (n - 1))) = L at hgn hdl ⊢
        refine g_ist6_3 dX5_tryRing_29 (by decide) rfl ?_
        refine g_iload_n dX5_tryRing_30 rfl ?_
        refine g_iload_n dX5_tryRing_31 rfl ?_
        refine g_isub dX5_tryRing_32 ?_
        refine g_ist6_4 dX5_tryRing_33 (by decide) rfl ?_
        generalize v - nI L = w at hgn ⊢
        refine g_iload_n dX5_tryRing_35 rfl ?_
        refine g_iconst ((-1)) dX5_tryRing_36 ki_m1 ?_
        refine g_icmp_eq 55 dX5_tryRing_37 (by decide) (fun c37 => ?_) (fun c37 => ?_)
        · exact absurd c37 (nI_m1 (by omega))
        · refine g_iload dX5_tryRing_40 rfl ?_
          refine g_if_le 55 dX5_tryRing_42 (by decide) (fun c42 => ?_) (fun c42 => ?_)
          · refine g_return dX5_tryRing_55 rfl ?_
            refine h M m b g EqO.rf (fun j _ _ => rfl) (BM_keep hM (fun s q hs hr => ?_) (fun _ h => Or.inl h))
            rcases hs with hs | hs
            · exact Or.inl hs
            · refine Or.inr (Or.inl ?_)
              rw [Int32.le_iff_toInt_le, hgn] at c42
              obtain ⟨e, hs⟩ := hs
              subst e
              rw [← gn_cong hs (by omega)]
              exact c42
          · have hpos : 0 < gnR S (fun i => hl (x i)) n := by
              rw [← hgn]
              have := Int32.lt_iff_toInt_lt.mp (Int32.not_le.mp (by simpa using c42))
              exact this
            obtain ⟨G, hG⟩ : ∃ G : Nat, (G : Int) = gnR S (fun i => hl (x i)) n := ⟨(gnR S (fun i => hl (x i)) n).toNat, by omega⟩
            have ew : w = nI G := t_nI (by rw [hgn, hG]) (by omega)
            subst ew
            refine g_aload_n dX5_tryRing_45 rfl ?_
            refine g_iload dX5_tryRing_46 rfl ?_
            refine g_iload_n dX5_tryRing_48 rfl ?_
            refine g_call2 dX5_tryRing_49 clG_isBetter ml_G_90 gc5 rfl rfl (by decide) (Nat.le_of_ble_eq_true rfl) ?_
            refine SG_isBetter hR hw hM (G := G) (by omega) hn hx0.1 hx0.2 ?_
            by_cases hbt : g < G ∨ (G = g ∧ (n < m ∨ (n = m ∧ hl (x 0) < b 0)))
            · rw [decide_eq_true hbt]
              refine g_if_ne_tt 56 dX5_tryRing_52 (by decide) ?_
              refine g_aload_n dX5_tryRing_56 rfl ?_
              refine g_iload dX5_tryRing_57 rfl ?_
              refine g_puti (j := 9) dX5_tryRing_59 gc5 rfl (by decide) rfl (by decide) fl_G_41 rfl (tyX5_ok 9 (by decide)) (by first | rfl | exact nar_bI _) rfl ?_
              refine g_aload_n dX5_tryRing_62 rfl ?_
              refine g_iload_n dX5_tryRing_63 rfl ?_
              refine g_puti (j := 8) dX5_tryRing_64 gc5 rfl (by decide) rfl (by decide) fl_G_38 rfl (tyX5_ok 8 (by decide)) (by first | rfl | exact nar_bI _) rfl ?_
              refine g_iconst (nI 0) dX5_tryRing_67 ki_0 ?_
              refine g_ist6_5 dX5_tryRing_68 (by decide) rfl ?_
              refine loop_up (P := fun i => ∀ M', EqO [40] (mset (mset M 35 9 (nI G)) 35 8 (nI n)) M' → (∀ j, j < i → M' 40 j = nI (hl (x j))) → Go mG_tryRing (d + 3) Q 70 [some (.ref 35), some (.int (nI n)), some (.int v), some (.int (nI L)), some (.int (nI G)), some (.int (nI i))] [] M') n ?_ 0 (Nat.zero_le _) _ EqO.rf (fun j hj => absurd hj (by omega))
              intro i hi ih M' hE hbs
              have e35 : M' 35 = (mset (mset M 35 9 (nI G)) 35 8 (nI n)) 35 := hE 35 (by decide)
              have e35' : ∀ j, j ≠ 8 → j ≠ 9 → M' 35 j = M 35 j := fun j j8 j9 => by rw [e35, mset_off (by omega), mset_off (by omega)]
              have hR' : RG S M' k hc hl mc := hR.off (fun j hj => e35' j (by omega) (by omega)) (fun y hy => by rw [hE y (by simp; omega), mset_ne (by omega), mset_ne (by omega)])
              refine g_iload dX5_tryRing_70 rfl ?_
              refine g_iload_n dX5_tryRing_72 rfl ?_
              refine g_icmp_ge_n 95 dX5_tryRing_73 (by decide) (by omega) (by omega) (fun c73 => ?_) (fun c73 => ?_)
              · refine g_return dX5_tryRing_95 rfl ?_
                obtain rfl : i = n := by omega
                refine h M' i (fun i => hl (x i)) G (((EqO.set (by decide)).tr (EqO.set (by decide))).tr (hE.sub (by decide))) e35' (try_yes hM ⟨hn.1, hn.2, hrow, hmy⟩ hw hG (by omega) hbt ?_ ?_ hbs)
                · rw [e35, mset_at]
                · rw [e35, mset_off (by omega), mset_at]
              · have hxi := hx i (by omega)
                refine g_aload_n dX5_tryRing_76 rfl ?_
                refine g_getr (j := 5) dX5_tryRing_77 gc5 rfl (by decide) rfl (by decide) fl_G_24 ?_
                refine g_iload dX5_tryRing_80 rfl ?_
                refine g_aload_n dX5_tryRing_82 rfl ?_
                refine g_iload dX5_tryRing_83 rfl ?_
                refine g_call1 dX5_tryRing_85 clG_dutyOfRow ml_G_93 gc5 rfl rfl (by decide) (Nat.le_of_ble_eq_true rfl) ?_
                refine SG_dutyOfRow hR' hw (by omega) (by rw [hE 39 (by decide), mset_ne (by decide), mset_ne (by decide)]; exact hxi.1) hxi.2 ?_
                refine g_iast_n dX5_tryRing_88 (by first | rfl | assumption) (by first | decide | assumption) (by omega) (by omega) ?_
                first | refine g_incn6_5 dX5_tryRing_89 ki_1 (by decide) rfl ?_ | refine g_incg6_5 (nI 1) dX5_tryRing_89 ki_1 (by decide) rfl ?_
                refine g_goto 70 dX5_tryRing_92 (by decide) ?_
                refine ih (by omega) _ (hE.tr (EqO.set (by decide))) (fun j hj => ?_)
                by_cases e : j = i
                · rw [e, mset_at]
                · rw [mset_off (by omega)]; exact hbs j (by omega)
            · rw [decide_eq_false hbt]
              refine g_if_ne_ff 56 dX5_tryRing_52 (by decide) ?_
              refine g_return dX5_tryRing_55 rfl ?_
              exact h M m b g EqO.rf (fun j _ _ => rfl) (try_no hM (by omega) hG (by omega) hP hbt)
      · rw [if_neg hmy]
        refine g_ist6_3 dX5_tryRing_29 (by decide) rfl ?_
        refine g_iload_n dX5_tryRing_30 rfl ?_
        refine g_iload_n dX5_tryRing_31 rfl ?_
        refine g_isub dX5_tryRing_32 ?_
        refine g_ist6_4 dX5_tryRing_33 (by decide) rfl ?_
        refine g_iload_n dX5_tryRing_35 rfl ?_
        refine g_iconst ((-1)) dX5_tryRing_36 ki_m1 ?_
        refine g_icmp_eq 55 dX5_tryRing_37 (by decide) (fun c37 => ?_) (fun c37 => ?_)
        · refine g_return dX5_tryRing_55 rfl ?_
          refine h M m b g EqO.rf (fun j _ _ => rfl) (BM_keep hM (fun s q hs hr => ?_) (fun _ h => Or.inl h))
          rcases hs with hs | hs
          · exact Or.inl hs
          · exfalso
            obtain ⟨e, hs⟩ := hs
            subst e
            have h4 := hr.2.2.2
            rw [← hs 0 (by omega), ← hs (n - 1) (by omega)] at h4
            exact hmy h4
        · exact absurd rfl c37
    · exact absurd hn (by omega)
