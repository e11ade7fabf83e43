/-! what SHIFTED leaves as it was -/
theorem cnt_cong {f g : Nat → Bool} : ∀ {n : Nat}, (∀ x, x < n → g x = f x) → cnt g n = cnt f n
  | 0, _ => rfl
  | n + 1, h => by rw [cnt, cnt, cnt_cong (n := n) (fun x hx => h x (by omega)), h n (by omega)]
theorem cnt_one {f g : Nat → Bool} {d : Nat} (h : ∀ x, x ≠ d → g x = f x) : ∀ {n : Nat}, d < n → cnt g n + (if f d = true then 1 else 0) = cnt f n + (if g d = true then 1 else 0)
  | 0, hd => by omega
  | n + 1, hd => by
    rw [cnt, cnt]
    by_cases e : d = n
    · subst e
      rw [cnt_cong (n := d) (fun x hx => h x (by omega))]
      omega
    · have := cnt_one h (n := n) (by omega)
      rw [h n (fun z => e z.symm)]
      omega
theorem sumN_cong {f g : Nat → Nat} : ∀ {n : Nat}, (∀ x, x < n → g x = f x) → sumN g n = sumN f n
  | 0, _ => rfl
  | n + 1, h => by rw [sumN, sumN, sumN_cong (n := n) (fun x hx => h x (by omega)), h n (by omega)]
theorem sumN_one {f g : Nat → Nat} {d : Nat} (h : ∀ x, x ≠ d → g x = f x) : ∀ {n : Nat}, d < n → sumN g n + f d = sumN f n + g d
  | 0, hd => by omega
  | n + 1, hd => by
    rw [sumN, sumN]
    by_cases e : d = n
    · subst e
      rw [sumN_cong (n := d) (fun x hx => h x (by omega))]
      omega
    · have := sumN_one h (n := n) (by omega)
      rw [h n (fun z => e z.symm)]
      omega
theorem shP_ind {S0 : BS} (hW : WF S0) {k : Nat} {o : Prop} {q : PS} (h : TR S0 k o q) {P : BS → Nat → Prop}
    (hs : ∀ S j, j < q.1.length → (∀ b, b ≠ 12 → S b = S0 b) → q.2 (q.1.getD j 0) < S0 1 0 0 → S0 11 (q.2 (q.1.getD j 0)) 0 = k → mayB S0 (q.1.getD j 0) (q.2 (q.1.getD j 0)) = true → P S (q.1.getD j 0) → P (up S 12 (q.2 (q.1.getD j 0)) 0 (q.1.getD j 0)) (S 12 (q.2 (q.1.getD j 0)) 0)) :
    ∀ {i : Nat} {S : BS}, i < q.1.length → AG S0 S q i → (∀ b, b ≠ 12 → S b = S0 b) → P S (q.1.getD i 0) → ∃ p, P (shP (i + 1) S q.2 (q.1.getD i 0)) p ∧ ((o ∧ p = 8) ∨ (¬ o ∧ p = q.1.getD 0 0)) := by
  intro i
  induction i using Nat.strongRecOn with
  | ind i ih =>
    intro S hi hag hS hP
    have hp := h.2.1 _ (getD_mem hi)
    have hw := hW.np
    have hw2 := hW.nd
    rcases h.2.2 i hi with ⟨a1, a2, a3⟩ | ⟨a1, a2, a3, a4⟩
    · refine ⟨q.1.getD i 0, ?_, Or.inr ⟨a3, by rw [a2]⟩⟩
      rw [shP, if_neg (fun z => by omega)]
      exact hP
    · have hlt : q.2 (q.1.getD i 0) < 24 := by omega
      have hS2 : ∀ b, b ≠ 12 → up S 12 (q.2 (q.1.getD i 0)) 0 (q.1.getD i 0) b = S0 b := fun b hb => by
        rw [← hS b hb]; funext y z; exact up_off (fun w => hb w.1)
      have hP2 := hs S i hi hS a1 a2 a3 hP
      rcases AG_step hW h hi hlt hag with ⟨ho, e8⟩ | ⟨j, hj, e, hag2⟩
      · refine ⟨8, ?_, Or.inl ⟨ho, rfl⟩⟩
        rw [shP, if_pos ⟨by omega, hlt⟩, e8, shP_8]
        rw [e8] at hP2
        exact hP2
      · rw [← e] at hP2
        rw [shP_step hW h hi hlt hag hj e hag2]
        exact ih j hj (by omega) hag2 hS2 hP2
theorem shP_max {S0 : BS} (hW : WF S0) {k : Nat} {o : Prop} {q : PS} (h : TR S0 k o q) {i : Nat} (hi : i < q.1.length) : shP 8 S0 q.2 (q.1.getD i 0) = shP (i + 1) S0 q.2 (q.1.getD i 0) := by
  have hl := h.len hW
  have hw := hW.np
  have hfin := shP_more (dnP_of hW h hi (fun j hj hlt => rfl)) (8 - (i + 1))
  rw [show i + 1 + (8 - (i + 1)) = 8 by omega] at hfin
  exact hfin
theorem shP_HO {S0 : BS} (hW : WF S0) {k : Nat} {o : Prop} {q : PS} (h : TR S0 k o q) (hH : HM S0) {i : Nat} (hi : i < q.1.length) : HM (shP 8 S0 q.2 (q.1.getD i 0)) := by
  rw [shP_max hW h hi]
  obtain ⟨_, h1, _⟩ := shP_ind hW h (P := fun S _ => HM S) (fun S j hj hS a1 a2 a3 hP => HO_ho hP (fun _ => by rw [may_ho hS]; exact a3)) hi (fun j hj hlt => rfl) (fun _ _ => rfl) hH
  exact h1
theorem shP_WF {S0 : BS} (hW : WF S0) {k : Nat} {o : Prop} {q : PS} (h : TR S0 k o q) {i : Nat} (hi : i < q.1.length) : WF (shP 8 S0 q.2 (q.1.getD i 0)) := by
  have hp := h.2.1 _ (getD_mem hi)
  have hw := hW.np
  exact WF.hoE (fun a ha => shP_ho ha) hW (shP_ho8 (fun d hd => (hW.dk hd).2.2) (by omega))
theorem flP_OK {S : BS} (hW : WF S) (hH : HM S) {k : Nat} : ∀ {i : Nat}, i ≤ S 1 0 0 → WF (flP S k i).1 ∧ HM (flP S k i).1 ∧ (flP S k i).2 ≤ i
  | 0, _ => ⟨hW, hH, Nat.le_refl 0⟩
  | i + 1, hi => by
    obtain ⟨h1, h2, h3⟩ := flP_OK hW hH (k := k) (i := i) (by omega)
    rw [flP]
    split
    · rename_i hc
      obtain ⟨c1, c2, c3⟩ := hc
      have eT : ∀ a, a ≠ 12 → (flP S k i).1 a = S a := fun a ha => flP_ho S k ha
      have hs := sd_lt (S := S) (k := i) (by omega)
      have hfp := fpP_ok (S := (flP S k i).1) (k := k) (d := sd S i) (by rw [eT 1 (by decide)]; exact hs) (by rw [eT 11 (by decide)]; exact c1) c2
      have hlm := lmP_mem (S := (flP S k i).1) (k := k) (l := (fpP (flP S k i).1 k (sd S i)).1) (fun p hp => by have := hfp.2.1 p hp; have := h1.np; omega) (Nat.le_refl _)
      obtain ⟨_, hmem⟩ := hlm.resolve_left (fun z => c3 z.1)
      obtain ⟨j, hj, ej⟩ := getD_of_mem hmem
      rw [← ej]
      exact ⟨shP_WF h1 hfp hj, shP_HO h1 hfp h2 hj, by dsimp only; omega⟩
    · exact ⟨h1, h2, by omega⟩
def fl4 (S : BS) : Nat → BS × Nat
  | 0 => (S, 0)
  | n + 1 => ((flP (fl4 S n).1 n ((fl4 S n).1 1 0 0)).1, (fl4 S n).2 + (flP (fl4 S n).1 n ((fl4 S n).1 1 0 0)).2)
theorem fl4_OK {S : BS} (hW : WF S) (hH : HM S) : ∀ {n : Nat}, WF (fl4 S n).1 ∧ HM (fl4 S n).1 ∧ (fl4 S n).2 ≤ 24 * n
  | 0 => ⟨hW, hH, Nat.le_refl 0⟩
  | n + 1 => by
    obtain ⟨h1, h2, h3⟩ := fl4_OK hW hH (n := n)
    obtain ⟨a1, a2, a3⟩ := flP_OK h1 h2 (k := n) (Nat.le_refl _)
    have := h1.nd
    exact ⟨a1, a2, by rw [fl4]; dsimp only; omega⟩
def f_fill (k : Int32) (S : BS) : Int32 × BS := if k = -1 then (nI (fl4 S 4).2, (fl4 S 4).1) else if inR k 4 = true then (nI (flP S (v2n k) (S 1 0 0)).2, (flP S (v2n k) (S 1 0 0)).1) else (-1, S)
theorem SF_fill (k : Int32) (M : Mm) (S : BS) (Q : Po) (hB : BK M S) (hH : HM S) (h : ∀ M', FrC M M' → BK M' (f_fill k S).2 → Q M' (some (.int (f_fill k S).1))) : Call 60 mF_fill [.ref 0, .int k] M Q := by
  unfold f_fill at h
  refine Call_of (m := mF_fill) [some (.ref 0), some (.int k), none, none] rfl (fun G => Nat.le_of_ble_eq_true rfl) (fun G => rfl) ?_
  refine g_iload_n dX9_fill_0 rfl ?_
  refine g_iconst ((-1)) dX9_fill_1 ki_m1 ?_
  refine g_icmp_eq 14 dX9_fill_2 (by decide) (fun c2 => ?_) (fun c2 => ?_)
  · rw [if_pos c2] at h
    refine g_iload_n dX9_fill_14 rfl ?_
    refine g_iconst ((-1)) dX9_fill_15 ki_m1 ?_
    refine g_icmp_eq 28 dX9_fill_16 (by decide) (fun c16 => ?_) (fun c16 => ?_)
    · refine g_iconst (nI 0) dX9_fill_28 ki_0 ?_
      refine g_ist4_2 dX9_fill_29 (by decide) rfl ?_
      refine g_iconst (nI 0) dX9_fill_30 ki_0 ?_
      refine g_ist4_3 dX9_fill_31 (by decide) rfl ?_
      refine loop_up (P := fun i => ∀ M', FrC M M' → BK M' (fl4 S i).1 → Go mF_fill 60 Q 32 [some (.ref 0), some (.int k), some (.int (nI (fl4 S i).2)), some (.int (nI i))] [] M') 4 ?_ 0 (Nat.zero_le _) M FrC.rf hB
      intro i hi ih M' hE hB'
      have hl := (fl4_OK hB.wf hH (n := i)).2.2
      refine g_iload_n dX9_fill_32 rfl ?_
      refine g_iconst (nI 4) dX9_fill_33 ki_4 ?_
      refine g_icmp_ge_n 54 dX9_fill_34 (by decide) (by omega) (by omega) (fun c34 => ?_) (fun c34 => ?_)
      · refine g_iload_n dX9_fill_54 rfl ?_
        refine g_ireturn dX9_fill_55 rfl (by first | rfl | exact nar_bI _) ?_
        rw [show i = 4 by omega]
        rw [show i = 4 by omega] at hB'
        exact h M' hE hB'
      · refine g_iload_n dX9_fill_37 rfl ?_
        refine g_aload_n dX9_fill_38 rfl ?_
        refine g_getr (j := 4) dX9_fill_39 gc9 rfl (by decide) rfl (by decide) fl_F_38 ?_
        refine g_iload_n dX9_fill_42 rfl ?_
        refine g_call1 dX9_fill_43 clH_fillKind ml_F_213 gc4 rfl rfl (by decide) (Nat.le_of_ble_eq_true rfl) ?_
        refine SH_fillKind hB' (by omega) (fun M2 hE2 hB2 => ?_)
        have hl2 := (flP_OK hB'.wf (fl4_OK hB.wf hH (n := i)).2.1 (k := i) (Nat.le_refl _)).2.2
        have := hB'.wf.nd
        first | refine g_iadd_n dX9_fill_46 ?_ | refine g_iadd dX9_fill_46 ?_
        refine g_ist4_2 dX9_fill_47 (by decide) rfl ?_
        first | refine g_incn4_3 dX9_fill_48 ki_1 (by decide) rfl ?_ | refine g_incg4_3 (nI 1) dX9_fill_48 ki_1 (by decide) rfl ?_
        refine g_goto 32 dX9_fill_51 (by decide) ?_
        exact ih (by omega) M2 (hE.tr (FrC.of hE2 (by decide))) hB2
    · exact absurd c2 c16
  · rw [if_neg c2] at h
    refine g_iload_n dX9_fill_5 rfl ?_
    refine g_calls1 dX9_fill_6 clF_isKind ml_F_106 (Nat.le_of_ble_eq_true rfl) ?_
    refine SF_isKind k ?_
    refine g_if_ne_b 14 dX9_fill_9 (by decide) (fun c9 => ?_) (fun c9 => ?_)
    · rw [if_pos c9] at h
      refine g_iload_n dX9_fill_14 rfl ?_
      refine g_iconst ((-1)) dX9_fill_15 ki_m1 ?_
      refine g_icmp_eq 28 dX9_fill_16 (by decide) (fun c16 => ?_) (fun c16 => ?_)
      · exact absurd c16 c2
      · obtain ⟨e, he, rfl⟩ := inR_true c9
        rw [v2n_nI (show e < 2 ^ 31 by omega)] at h
        refine g_aload_n dX9_fill_19 rfl ?_
        refine g_getr (j := 4) dX9_fill_20 gc9 rfl (by decide) rfl (by decide) fl_F_38 ?_
        refine g_iload_n dX9_fill_23 rfl ?_
        refine g_call1 dX9_fill_24 clH_fillKind ml_F_213 gc4 rfl rfl (by decide) (Nat.le_of_ble_eq_true rfl) ?_
        refine SH_fillKind hB he (fun M2 hE2 hB2 => ?_)
        refine g_ireturn dX9_fill_27 rfl (by first | rfl | exact nar_bI _) ?_
        exact h M2 (FrC.of hE2 (by decide)) hB2
    · rw [if_neg (by rw [c9]; decide)] at h
      refine g_iconst ((-1)) dX9_fill_12 ki_m1 ?_
      refine g_ireturn dX9_fill_13 rfl (by first | rfl | exact nar_bI _) ?_
      exact h M FrC.rf hB
theorem SM_fill (k : Int32) (M : Mm) (S : BS) (Q : Po) (hM : MK (M 58) S) (hC : MC M) (hH : HM S) (h : ∀ M', FrM M M' → MK (M' 58) (f_fill k S).2 → Q M' (some (.int (f_fill k S).1))) : Call 60 mM_fill [.ref 57, .int k] M Q := by
  unfold f_fill at h
  refine Call_of (m := mM_fill) [some (.ref 57), some (.int k), none, none] rfl (fun G => Nat.le_of_ble_eq_true rfl) (fun G => rfl) ?_
  refine g_iload_n dX10_fill_0 rfl ?_
  refine g_iconst ((-1)) dX10_fill_1 ki_m1 ?_
  refine g_icmp_eq 14 dX10_fill_2 (by decide) (fun c2 => ?_) (fun c2 => ?_)
  · rw [if_pos c2] at h
    refine g_iload_n dX10_fill_14 rfl ?_
    refine g_if_lt 24 dX10_fill_15 (by decide) (fun c15 => ?_) (fun c15 => ?_)
    · refine g_iconst (nI 0) dX10_fill_24 ki_0 ?_
      refine g_ist4_2 dX10_fill_25 (by decide) rfl ?_
      refine g_iconst (nI 0) dX10_fill_26 ki_0 ?_
      refine g_ist4_3 dX10_fill_27 (by decide) rfl ?_
      refine loop_up (P := fun i => ∀ M', FrM M M' → MK (M' 58) (fl4 S i).1 → Go mM_fill 60 Q 28 [some (.ref 57), some (.int k), some (.int (nI (fl4 S i).2)), some (.int (nI i))] [] M') 4 ?_ 0 (Nat.zero_le _) M FrM.rf hM
      intro i hi ih M' hE hM'
      have hl := (fl4_OK hM.wf hH (n := i)).2.2
      refine g_iload_n dX10_fill_28 rfl ?_
      refine g_iconst (nI 4) dX10_fill_29 ki_4 ?_
      refine g_icmp_ge_n 47 dX10_fill_30 (by decide) (by omega) (by omega) (fun c30 => ?_) (fun c30 => ?_)
      · refine g_iload_n dX10_fill_47 rfl ?_
        refine g_ireturn dX10_fill_48 rfl (by first | rfl | exact nar_bI _) ?_
        rw [show i = 4 by omega]
        rw [show i = 4 by omega] at hM'
        exact h M' hE hM'
      · refine g_iload_n dX10_fill_33 rfl ?_
        refine g_aload_n dX10_fill_34 rfl ?_
        refine g_iload_n dX10_fill_35 rfl ?_
        refine g_call1 dX10_fill_36 clM_filled ml_M_177 gc10 rfl rfl (by decide) (Nat.le_of_ble_eq_true rfl) ?_
        refine SM_filled hM' (by omega) (fun M2 hE2 hM2 => ?_)
        have hl2 := (flP_OK hM'.wf (fl4_OK hM.wf hH (n := i)).2.1 (k := i) (Nat.le_refl _)).2.2
        have := hM'.wf.nd
        first | refine g_iadd_n dX10_fill_39 ?_ | refine g_iadd dX10_fill_39 ?_
        refine g_ist4_2 dX10_fill_40 (by decide) rfl ?_
        first | refine g_incn4_3 dX10_fill_41 ki_1 (by decide) rfl ?_ | refine g_incg4_3 (nI 1) dX10_fill_41 ki_1 (by decide) rfl ?_
        refine g_goto 28 dX10_fill_44 (by decide) ?_
        exact ih (by omega) M2 (hE.tr (FrM.ofQ hE2 (by decide))) hM2
    · rw [c2] at c15
      exact absurd (show (-1 : Int32) < 0 by decide) c15
  · rw [if_neg c2] at h
    refine g_iload_n dX10_fill_5 rfl ?_
    refine g_calls1 dX10_fill_6 clM_isKind ml_M_117 (Nat.le_of_ble_eq_true rfl) ?_
    refine SM_isKind k ?_
    refine g_if_ne_b 14 dX10_fill_9 (by decide) (fun c9 => ?_) (fun c9 => ?_)
    · rw [if_pos c9] at h
      obtain ⟨e, he, rfl⟩ := inR_true c9
      rw [v2n_nI (show e < 2 ^ 31 by omega)] at h
      refine g_iload_n dX10_fill_14 rfl ?_
      refine g_if_lt_n 24 dX10_fill_15 (by decide) (by omega) ?_
      refine g_aload_n dX10_fill_18 rfl ?_
      refine g_iload_n dX10_fill_19 rfl ?_
      refine g_call1 dX10_fill_20 clM_filled ml_M_177 gc10 rfl rfl (by decide) (Nat.le_of_ble_eq_true rfl) ?_
      refine SM_filled hM he (fun M2 hE2 hM2 => ?_)
      refine g_ireturn dX10_fill_23 rfl (by first | rfl | exact nar_bI _) ?_
      exact h M2 (FrM.ofQ hE2 (by decide)) hM2
    · rw [if_neg (by rw [c9]; decide)] at h
      refine g_iconst ((-1)) dX10_fill_12 ki_m1 ?_
      refine g_ireturn dX10_fill_13 rfl (by first | rfl | exact nar_bI _) ?_
      exact h M FrM.rf hM
theorem both_fill (k : Int32) : Both mF_fill mM_fill [.int k] := both_book (f_fill k) (fun M S Q => SF_fill k M S Q) (fun M S Q => SM_fill k M S Q) (fun S hW hH => by
  unfold f_fill
  split
  · exact (fl4_OK hW hH).2.1
  · split
    · exact (flP_OK hW hH (Nat.le_refl _)).2.1
    · exact hH)
