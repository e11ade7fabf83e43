/-! RINGS in the reference: looksAt -/
def BR (S : BS) (M : Mm) (P : Nat → RW → Prop) (m : Nat) (b : RW) (g : Nat) : Prop := M 57 16 = nI m ∧ M 57 17 = nI g ∧ m ≤ 4 ∧ g ≤ 100 ∧ (m = 0 → g = 0) ∧ (0 < m → (g : Int) = gnR S b m) ∧ (∀ i, i < m → M 68 i = nI (b i) ∧ b i < 24) ∧ BstP S P m b
theorem BR_keep {S : BS} {M : Mm} {P P' : Nat → RW → Prop} {m g : Nat} {b : RW} (h : BR S M P m b g) (hp : ∀ s q, P' s q → ringOK S q s → P s q ∨ gnR S q s ≤ 0 ∨ (m ≠ 0 ∧ (sameR m b s q ∨ btR S m b s q))) (h2 : ringOK S b m → P m b → P' m b) : BR S M P' m b g := by
  obtain ⟨h8, h9, hm4, hg, h0, hgn, h40, hb⟩ := h
  exact ⟨h8, h9, hm4, hg, h0, hgn, h40, Bst_keep hb hp h2⟩
theorem BR.off {S : BS} {M M' : Mm} {P : Nat → RW → Prop} {m g : Nat} {b : RW} (h : BR S M P m b g) (h1 : ∀ j, j = 16 ∨ j = 17 → M' 57 j = M 57 j) (h2 : M' 68 = M 68) : BR S M' P m b g := by
  obtain ⟨h8, h9, hm4, hg, h0, hgn, h40, hb⟩ := h
  exact ⟨by rw [h1 16 (by omega)]; exact h8, by rw [h1 17 (by omega)]; exact h9, hm4, hg, h0, hgn, fun i hi => by rw [h2]; exact h40 i hi, hb⟩
theorem look_no {S : BS} {M : Mm} {P : Nat → RW → Prop} {m g n : Nat} {b r : RW} (h : BR S M P m b g) (hn : 0 < n) (hP : ∀ s q, P s q → ringOK S q s → s < n ∨ (s = n ∧ lexR n q r)) (hno : gnR S r n ≤ (g : Int)) : BR S M (fun s q => P s q ∨ sameR n r s q) m b g := by
  refine BR_keep h (fun s q hs hr => ?_) (fun _ h => Or.inl h)
  rcases hs with hs | hs
  · exact Or.inl hs
  · obtain ⟨h8, h9, hm4, hg, h0, hgn, h40, hb⟩ := h
    by_cases hm0 : m = 0
    · have := h0 hm0
      refine Or.inr (Or.inl ?_)
      obtain ⟨e, hs⟩ := hs
      subst e
      rw [← gn_cong hs hn]
      omega
    · have hgn := hgn (by omega)
      refine Or.inr (Or.inr ⟨hm0, Or.inr (bt_same (s := n) (q := r) ?_ hs hn)⟩)
      unfold btR
      by_cases z : gnR S r n = (g : Int)
      · refine Or.inr ⟨by omega, ?_⟩
        rcases hb with ⟨b1, _⟩ | ⟨b1, b2, b3, b4⟩
        · exact absurd b1 hm0
        · rcases hP m b b3 b1 with y | ⟨y1, y2⟩
          · exact Or.inl y
          · exact Or.inr ⟨y1, by rw [y1]; exact y2⟩
      · exact Or.inl (by omega)
theorem look_yes {S : BS} {M M' : Mm} {P : Nat → RW → Prop} {m g n G : Nat} {b r : RW} (h : BR S M P m b g) (hr : ringOK S r n) (hw : S 1 0 0 ≤ 24) (hG : (G : Int) = gnR S r n) (hG0 : g < G ∧ G ≤ 100) (m8 : M' 57 16 = nI n) (m9 : M' 57 17 = nI G) (m40 : ∀ i, i < n → M' 68 i = nI (r i)) : BR S M' (fun s q => P s q ∨ sameR n r s q) n r G := by
  obtain ⟨h8, h9, hm4, hg, h0, hgn, h40, hb⟩ := h
  have hn := hr.1
  refine ⟨m8, m9, hr.2.1, hG0.2, fun z => by omega, fun _ => hG, fun i hi => ⟨m40 i hi, by have := (hr.2.2.1 i hi).1; omega⟩, Bst_new hb hr (by omega) ?_ (fun u p hu _ => ?_) (Or.inr ⟨rfl, fun _ _ => rfl⟩)⟩
  · by_cases hm0 : m = 0
    · exact Or.inl hm0
    · have hgn := hgn (by omega)
      exact Or.inr (Or.inl (by omega))
  · rcases hu with hu | hu
    · exact Or.inl hu
    · exact Or.inr (Or.inr hu)
def EqG (M M' : Mm) : Prop := ∀ k j, ¬ (k = 57 ∧ (j = 16 ∨ j = 17)) → k ≠ 68 → M' k j = M k j
theorem EqG.rf {M : Mm} : EqG M M := fun _ _ _ _ => rfl
theorem EqG.tr {M M1 M2 : Mm} (h1 : EqG M M1) (h2 : EqG M1 M2) : EqG M M2 := fun k j h g => (h2 k j h g).trans (h1 k j h g)
theorem EqG.row {M M' : Mm} (h : EqG M M') {k : Nat} (h1 : k ≠ 57) (h2 : k ≠ 68) : M' k = M k := funext fun j => h k j (fun z => h1 z.1) h2
theorem SM_looksAt {d : Nat} {M : Mm} {S : BS} {Q : Po} {P : Nat → RW → Prop} {r b : RW} {n m g : Nat} (hM : MK (M 58) S) (hH : HM S) (hn : 2 ≤ n ∧ n ≤ 4) (h67 : ∀ i, i < n → M 67 i = nI (r i)) (hrow : rowOK S r n) (hB : BR S M P m b g) (hP : ∀ s q, P s q → ringOK S q s → s < n ∨ (s = n ∧ lexR n q r)) (h : ∀ M' m' b' g', EqG M M' → BR S M' (fun s q => P s q ∨ sameR n r s q) m' b' g' → Q M' none) : Call (d + 5) mM_looksAt [.ref 57, .int (nI n)] M Q := by
  have hw := hM.wf.nd
  have hrn := hrow (n - 1) (by omega)
  have hr0 := hrow 0 (by omega)
  have hr67 := h67 0 (by omega)
  have hl67 := h67 (n - 1) (by omega)
  have h17 := hB.2.1
  have hg100 := hB.2.2.2.1
  refine Call_of (m := mM_looksAt) [some (.ref 57), some (.int (nI n)), none] rfl (fun G => Nat.le_of_ble_eq_true rfl) (fun G => rfl) ?_
  refine g_aload_n dX10_looksAt_0 rfl ?_
  refine g_aload_n dX10_looksAt_1 rfl ?_
  refine g_aload_n dX10_looksAt_2 rfl ?_
  refine g_getr (j := 14) dX10_looksAt_3 gc10 rfl (by decide) rfl (by decide) fl_M_38 ?_
  refine g_iconst (nI 0) dX10_looksAt_6 ki_0 ?_
  refine g_iald_n dX10_looksAt_7 (by first | rfl | assumption) (by first | decide | assumption) (by omega) (by omega) ?_
  try simp (disch := omega) only [hr67, hl67]
  refine g_call1 dX10_looksAt_8 clM_holder ml_M_78 gc10 rfl rfl (by decide) (Nat.le_of_ble_eq_true rfl) ?_
  refine SM_holder hM hr0.1 ?_
  rw [hv_p (p := S 12 (r 0) 0) hr0.2.1]
  refine g_aload_n dX10_looksAt_11 rfl ?_
  refine g_getr (j := 14) dX10_looksAt_12 gc10 rfl (by decide) rfl (by decide) fl_M_38 ?_
  refine g_iload_n dX10_looksAt_15 rfl ?_
  refine g_iconst (nI 1) dX10_looksAt_16 ki_1 ?_
  first | refine g_isub_n dX10_looksAt_17 (by omega) ?_ | refine g_isub dX10_looksAt_17 ?_
  refine g_iald_n dX10_looksAt_18 (by first | rfl | assumption) (by first | decide | assumption) (by omega) (by omega) ?_
  try simp (disch := omega) only [hr67, hl67]
  refine g_call2 dX10_looksAt_19 clM_mayHold ml_M_113 gc10 rfl rfl (by decide) (Nat.le_of_ble_eq_true rfl) ?_
  refine SM_mayHold hM (by omega) hrn.1 ?_
  by_cases hmy : mayB S (S 12 (r 0) 0) (r (n - 1)) = true
  · rw [hmy]
    refine g_if_eq_tt 76 dX10_looksAt_22 (by decide) ?_
    refine g_aload_n dX10_looksAt_25 rfl ?_
    refine g_iload_n dX10_looksAt_26 rfl ?_
    refine g_call1 dX10_looksAt_27 clM_gainOf ml_M_200 gc10 rfl rfl (by decide) (Nat.le_of_ble_eq_true rfl) ?_
    refine SM_gainOf hM hH hn h67 hrow (fun w hwv hw1 hw2 => ?_)
    refine g_aload_n dX10_looksAt_30 rfl ?_
    refine g_geti (j := 17) dX10_looksAt_31 gc10 rfl (by decide) rfl (by decide) fl_M_203 ?_
    try simp (disch := omega) only [h17]
    refine g_icmp_le 76 dX10_looksAt_34 (by decide) (fun c34 => ?_) (fun c34 => ?_)
    · refine g_return dX10_looksAt_76 rfl ?_
      refine h M m b g EqG.rf (look_no hB (by omega) hP ?_)
      rw [Int32.le_iff_toInt_le, hwv, nI_toInt (by omega)] at c34
      exact c34
    · have hgt : (g : Int) < gnR S r n := by
        have := Int32.lt_iff_toInt_lt.mp (Int32.not_le.mp c34)
        rw [hwv, nI_toInt (by omega)] at this
        exact this
      refine g_aload_n dX10_looksAt_37 rfl ?_
      refine g_aload_n dX10_looksAt_38 rfl ?_
      refine g_iload_n dX10_looksAt_39 rfl ?_
      refine g_call1 dX10_looksAt_40 clM_gainOf ml_M_200 gc10 rfl rfl (by decide) (Nat.le_of_ble_eq_true rfl) ?_
      refine SM_gainOf hM hH hn h67 hrow (fun w2 hwv2 _ _ => ?_)
      obtain ⟨G, hG⟩ : ∃ G : Nat, (G : Int) = gnR S r n := ⟨(gnR S r n).toNat, by omega⟩
      obtain rfl : w2 = nI G := t_nI (by rw [hwv2, hG]) (by omega)
      refine g_puti (j := 17) dX10_looksAt_43 gc10 rfl (by decide) rfl (by decide) fl_M_203 rfl (tyX10_ok 17 (by decide)) (by first | rfl | exact nar_bI _) rfl ?_
      refine g_aload_n dX10_looksAt_46 rfl ?_
      refine g_iload_n dX10_looksAt_47 rfl ?_
      refine g_puti (j := 16) dX10_looksAt_48 gc10 rfl (by decide) rfl (by decide) fl_M_206 rfl (tyX10_ok 16 (by decide)) (by first | rfl | exact nar_bI _) rfl ?_
      refine g_iconst (nI 0) dX10_looksAt_51 ki_0 ?_
      refine g_ist3_2 dX10_looksAt_52 (by decide) rfl ?_
      refine loop_up (P := fun i => ∀ M', EqO [68] (mset (mset M 57 17 (nI G)) 57 16 (nI n)) M' → (∀ j, j < i → M' 68 j = nI (r j)) → Go mM_looksAt (d + 5) Q 53 [some (.ref 57), some (.int (nI n)), some (.int (nI i))] [] M') n ?_ 0 (Nat.zero_le _) _ EqO.rf (fun j hj => absurd hj (by omega))
      intro i hi ih M' hE hbs
      refine g_iload_n dX10_looksAt_53 rfl ?_
      refine g_iload_n dX10_looksAt_54 rfl ?_
      refine g_icmp_ge_n 76 dX10_looksAt_55 (by decide) (by omega) (by omega) (fun c55 => ?_) (fun c55 => ?_)
      · refine g_return dX10_looksAt_76 rfl ?_
        obtain rfl : i = n := by omega
        refine h M' i r G (fun k j h1 h2 => ?_) (look_yes hB ⟨hn.1, hn.2, hrow, hmy⟩ hw hG (by omega) (by rw [hE 57 (by decide), mset_at]) (by rw [hE 57 (by decide), mset_off (by omega), mset_at]) hbs)
        rw [hE k (by simp; exact h2), mset_off (by omega), mset_off (by omega)]
      · have hi67 : M' 67 i = nI (r i) := by rw [hE 67 (by decide), mset_ne (by decide), mset_ne (by decide)]; exact h67 i (by omega)
        refine g_aload_n dX10_looksAt_58 rfl ?_
        refine g_getr (j := 15) dX10_looksAt_59 gc10 rfl (by decide) rfl (by decide) fl_M_41 ?_
        refine g_iload_n dX10_looksAt_62 rfl ?_
        refine g_aload_n dX10_looksAt_63 rfl ?_
        refine g_getr (j := 14) dX10_looksAt_64 gc10 rfl (by decide) rfl (by decide) fl_M_38 ?_
        refine g_iload_n dX10_looksAt_67 rfl ?_
        refine g_iald_n dX10_looksAt_68 (by first | rfl | assumption) (by first | decide | assumption) (by omega) (by omega) ?_
        try simp (disch := omega) only [hi67]
        refine g_iast_n dX10_looksAt_69 (by first | rfl | assumption) (by first | decide | assumption) (by omega) (by omega) ?_
        first | refine g_incn3_2 dX10_looksAt_70 ki_1 (by decide) rfl ?_ | refine g_incg3_2 (nI 1) dX10_looksAt_70 ki_1 (by decide) rfl ?_
        refine g_goto 53 dX10_looksAt_73 (by decide) ?_
        refine ih (by omega) _ (hE.tr (EqO.set (by decide))) (fun j hj => ?_)
        by_cases e : j = i
        · rw [e, mset_at]
        · rw [mset_off (by omega)]; exact hbs j (by omega)
  · rw [Bool.eq_false_iff.mpr hmy]
    refine g_if_eq_ff 76 dX10_looksAt_22 (by decide) ?_
    refine g_return dX10_looksAt_76 rfl ?_
    refine h M m b g EqG.rf (BR_keep hB (fun s q hs hq => ?_) (fun _ h => Or.inl h))
    rcases hs with hs | ⟨e, hs⟩
    · exact Or.inl hs
    · exfalso
      subst e
      have h4 := hq.2.2.2
      rw [← hs 0 (by omega), ← hs (n - 1) (by omega)] at h4
      exact hmy h4
