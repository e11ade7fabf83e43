/-! what SHIFTED leaves as it was -/
theorem cnt_cong {f g : Nat → Bool} : ∀ {n : Nat}, (∀ x, x < n → g x = f x) → cnt g n = cnt f n
  | 0, _ => rfl
  | n + 1, h => by rw [cnt, cnt, cnt_cong (n := n) (fun x hx => h x (by omega)), h n (by omega)]
theorem cnt_one {f g : Nat → Bool} {d : Nat} (h : ∀ x, x ≠ d → g x = f x) : ∀ {n : Nat}, d < n → cnt g n + (if f d = true then 1 else 0) = cnt f n + (if g d = true then 1 else 0)
  | 0, hd => by omega
  | n + 1, hd => by
    rw [cnt, cnt]
    by_cases e : d = n
    · subst e
      rw [cnt_cong (n := d) (fun x hx => h x (by omega))]
      omega
    · have := cnt_one h (n := n) (by omega)
      rw [h n (fun z => e z.symm)]
      omega
theorem sumN_cong {f g : Nat → Nat} : ∀ {n : Nat}, (∀ x, x < n → g x = f x) → sumN g n = sumN f n
  | 0, _ => rfl
  | n + 1, h => by rw [sumN, sumN, sumN_cong (n := n) (fun x hx => h x (by omega)), h n (by omega)]
theorem sumN_one {f g : Nat → Nat} {d : Nat} (h : ∀ x, x ≠ d → g x = f x) : ∀ {n : Nat}, d < n → sumN g n + f d = sumN f n + g d
  | 0, hd => by omega
  | n + 1, hd => by
    rw [sumN, sumN]
    by_cases e : d = n
    · subst e
      rw [sumN_cong (n := d) (fun x hx => h x (by omega))]
      omega
    · have := sumN_one h (n := n) (by omega)
      rw [h n (fun z => e z.symm)]
      omega
theorem shP_ind {S0 : BS} (hW : WF S0) {k : Nat} {o : Prop} {q : PS} (h : TR S0 k o q) {P : BS → Nat → Prop}
    (hs : ∀ S j, j < q.1.length → (∀ b, b ≠ 12 → S b = S0 b) → q.2 (q.1.getD j 0) < S0 1 0 0 → S0 11 (q.2 (q.1.getD j 0)) 0 = k → mayB S0 (q.1.getD j 0) (q.2 (q.1.getD j 0)) = true → P S (q.1.getD j 0) → P (up S 12 (q.2 (q.1.getD j 0)) 0 (q.1.getD j 0)) (S 12 (q.2 (q.1.getD j 0)) 0)) :
    ∀ {i : Nat} {S : BS}, i < q.1.length → AG S0 S q i → (∀ b, b ≠ 12 → S b = S0 b) → P S (q.1.getD i 0) → ∃ p, P (shP (i + 1) S q.2 (q.1.getD i 0)) p ∧ ((o ∧ p = 8) ∨ (¬ o ∧ p = q.1.getD 0 0)) := by
  intro i
  induction i using Nat.strongRecOn with
  | ind i ih =>
    intro S hi hag hS hP
    have hp := h.2.1 _ (getD_mem hi)
    have hw := hW.np
    have hw2 := hW.nd
    rcases h.2.2 i hi with ⟨a1, a2, a3⟩ | ⟨a1, a2, a3, a4⟩
    · refine ⟨q.1.getD i 0, ?_, Or.inr ⟨a3, by rw [a2]⟩⟩
      rw [shP, if_neg (fun z => by omega)]
      exact hP
    · have hlt : q.2 (q.1.getD i 0) < 24 := by omega
      have hS2 : ∀ b, b ≠ 12 → up S 12 (q.2 (q.1.getD i 0)) 0 (q.1.getD i 0) b = S0 b := fun b hb => by
        rw [← hS b hb]; funext y z; exact up_off (fun w => hb w.1)
      have hP2 := hs S i hi hS a1 a2 a3 hP
      rcases AG_step hW h hi hlt hag with ⟨ho, e8⟩ | ⟨j, hj, e, hag2⟩
      · refine ⟨8, ?_, Or.inl ⟨ho, rfl⟩⟩
        rw [shP, if_pos ⟨by omega, hlt⟩, e8, shP_8]
        rw [e8] at hP2
        exact hP2
      · rw [← e] at hP2
        rw [shP_step hW h hi hlt hag hj e hag2]
        exact ih j hj (by omega) hag2 hS2 hP2
theorem shP_max {S0 : BS} (hW : WF S0) {k : Nat} {o : Prop} {q : PS} (h : TR S0 k o q) {i : Nat} (hi : i < q.1.length) : shP 8 S0 q.2 (q.1.getD i 0) = shP (i + 1) S0 q.2 (q.1.getD i 0) := by
  have hl := h.len hW
  have hw := hW.np
  have hfin := shP_more (dnP_of hW h hi (fun j hj hlt => rfl)) (8 - (i + 1))
  rw [show i + 1 + (8 - (i + 1)) = 8 by omega] at hfin
  exact hfin
theorem shP_HO {S0 : BS} (hW : WF S0) {k : Nat} {o : Prop} {q : PS} (h : TR S0 k o q) (hH : HM S0) {i : Nat} (hi : i < q.1.length) : HM (shP 8 S0 q.2 (q.1.getD i 0)) := by
  rw [shP_max hW h hi]
  obtain ⟨_, h1, _⟩ := shP_ind hW h (P := fun S _ => HM S) (fun S j hj hS a1 a2 a3 hP => HO_ho hP (fun _ => by rw [may_ho hS]; exact a3)) hi (fun j hj hlt => rfl) (fun _ _ => rfl) hH
  exact h1
theorem shP_WF {S0 : BS} (hW : WF S0) {k : Nat} {o : Prop} {q : PS} (h : TR S0 k o q) {i : Nat} (hi : i < q.1.length) : WF (shP 8 S0 q.2 (q.1.getD i 0)) := by
  have hp := h.2.1 _ (getD_mem hi)
  have hw := hW.np
  exact WF.hoE (fun a ha => shP_ho ha) hW (shP_ho8 (fun d hd => (hW.dk hd).2.2) (by omega))
theorem flP_OK {S : BS} (hW : WF S) (hH : HM S) {k : Nat} : ∀ {i : Nat}, i ≤ S 1 0 0 → WF (flP S k i).1 ∧ HM (flP S k i).1 ∧ (flP S k i).2 ≤ i
  | 0, _ => ⟨hW, hH, Nat.le_refl 0⟩
  | i + 1, hi => by
    obtain ⟨h1, h2, h3⟩ := flP_OK hW hH (k := k) (i := i) (by omega)
    rw [flP]
    split
    · rename_i hc
      obtain ⟨c1, c2, c3⟩ := hc
      have eT : ∀ a, a ≠ 12 → (flP S k i).1 a = S a := fun a ha => flP_ho S k ha
      have hs := sd_lt (S := S) (k := i) (by omega)
      have hfp := fpP_ok (S := (flP S k i).1) (k := k) (d := sd S i) (by rw [eT 1 (by decide)]; exact hs) (by rw [eT 11 (by decide)]; exact c1) c2
      have hlm := lmP_mem (S := (flP S k i).1) (k := k) (l := (fpP (flP S k i).1 k (sd S i)).1) (fun p hp => by have := hfp.2.1 p hp; have := h1.np; omega) (Nat.le_refl _)
      obtain ⟨_, hmem⟩ := hlm.resolve_left (fun z => c3 z.1)
      obtain ⟨j, hj, ej⟩ := getD_of_mem hmem
      rw [← ej]
      exact ⟨shP_WF h1 hfp hj, shP_HO h1 hfp h2 hj, by dsimp only; omega⟩
    · exact ⟨h1, h2, by omega⟩
def fl4 (S : BS) : Nat → BS × Nat
  | 0 => (S, 0)
  | n + 1 => ((flP (fl4 S n).1 n ((fl4 S n).1 1 0 0)).1, (fl4 S n).2 + (flP (fl4 S n).1 n ((fl4 S n).1 1 0 0)).2)
theorem fl4_OK {S : BS} (hW : WF S) (hH : HM S) : ∀ {n : Nat}, WF (fl4 S n).1 ∧ HM (fl4 S n).1 ∧ (fl4 S n).2 ≤ 24 * n
  | 0 => ⟨hW, hH, Nat.le_refl 0⟩
  | n + 1 => by
    obtain ⟨h1, h2, h3⟩ := fl4_OK hW hH (n := n)
    obtain ⟨a1, a2, a3⟩ := flP_OK h1 h2 (k := n) (Nat.le_refl _)
    have := h1.nd
    exact ⟨a1, a2, by rw [fl4]; dsimp only; omega⟩
def f_fill (k : Int32) (S : BS) : Int32 × BS := if k = -1 then (nI (fl4 S 4).2, (fl4 S 4).1) else if inR k 4 = true then (nI (flP S (v2n k) (S 1 0 0)).2, (flP S (v2n k) (S 1 0 0)).1) else (-1, S)
theorem SF_fill (k : Int32) (M : Mm) (S : BS) (Q : Po) (hB : BK M S) (hH : HM S) (h : ∀ M', FrC M M' → BK M' (f_fill k S).2 → Q M' (some (.int (f_fill k S).1))) : Call 60 mF_fill [.ref 0, .int k] M Q := by
  unfold f_fill at h
  refine Call_of (m := mF_fill) [some (.ref 0), some (.int k), none, none] rfl (fun G => Nat.le_of_ble_eq_true rfl) (fun G => rfl) ?_
  refine g_iload_n dX9_fill_0 rfl ?_
  refine g_iconst ((-1)) dX9_fill_1 ki_m1 ?_
  refine g_icmp_eq 14 dX9_fill_2 (by decide) (fun c2 => ?_) (fun c2 => ?_)
  · rw [if_pos c2] at h
    refine g_iload_n dX9_fill_14 rfl ?_
    refine g_iconst ((-1)) dX9_fill_15 ki_m1 ?_
    refine g_icmp_eq 28 dX9_fill_16 (by decide) (fun c16 => ?_) (fun c16 => ?_)
    · refine g_iconst (nI 0) dX9_fill_28 ki_0 ?_
      refine g_ist4_2 dX9_fill_29 (by decide) rfl ?_
      refine g_iconst (nI 0) dX9_fill_30 ki_0 ?_
      refine g_ist4_3 dX9_fill_31 (by decide) rfl ?_
      refine loop_up (P := fun i => ∀ M', FrC M M' → BK M' (fl4 S i).1 → Go mF_fill 60 Q 32 [some (.ref 0), some (.int k), some (.int (nI (fl4 S i).2)), some (.int (nI i))] [] M') 4 ?_ 0 (Nat.zero_le _) M FrC.rf hB
      intro i hi ih M' hE hB'
      have hl := (fl4_OK hB.wf hH (n := i)).2.2
      refine g_iload_n dX9_fill_32 rfl ?_
      refine g_iconst (nI 4) dX9_fill_33 ki_4 ?_
      refine g_icmp_ge_n 54 dX9_fill_34 (by decide) (by omega) (by omega) (fun c34 => ?_) (fun c34 => ?_)
      · refine g_iload_n dX9_fill_54 rfl ?_
        refine g_ireturn dX9_fill_55 rfl (by first | rfl | exact nar_bI _) ?_
        rw [show i = 4 by omega]
        rw [show i = 4 by omega] at hB'
        exact h M' hE hB'
      · refine g_iload_n dX9_fill_37 rfl ?_
        refine g_aload_n dX9_fill_38 rfl ?_
        refine g_getr (j := 4) dX9_fill_39 gc9 rfl (by decide) rfl (by decide) fl_F_38 ?_
        refine g_iload_n dX9_fill_42 rfl ?_
        refine g_call1 dX9_fill_43 clH_fillKind ml_F_213 gc4 rfl rfl (by decide) (Nat.le_of_ble_eq_true rfl) ?_
        refine SH_fillKind hB' (by omega) (fun M2 hE2 hB2 => ?_)
        have hl2 := (flP_OK hB'.wf (fl4_OK hB.wf hH (n := i)).2.1 (k := i) (Nat.le_refl _)).2.2
        have := hB'.wf.nd
        first | refine g_iadd_n dX9_fill_46 ?_ | refine g_iadd dX9_fill_46 ?_
        refine g_ist4_2 dX9_fill_47 (by decide) rfl ?_
        first | refine g_incn4_3 dX9_fill_48 ki_1 (by decide) rfl ?_ | refine g_incg4_3 (nI 1) dX9_fill_48 ki_1 (by decide) rfl ?_
        refine g_goto 32 dX9_fill_51 (by decide) ?_
        exact ih (by omega) M2 (hE.tr (FrC.of hE2 (by decide))) hB2
    · exact absurd c2 c16
  · rw [if_neg c2] at h
    refine g_iload_n dX9_fill_5 rfl ?_
    refine g_calls1 dX9_fill_6 clF_isKind ml_F_106 (Nat.le_of_ble_eq_true rfl) ?_
    refine SF_isKind k ?_
    refine g_if_ne_b 14 dX9_fill_9 (by decide) (fun c9 => ?_) (fun c9 => ?_)
    · rw [if_pos c9] at h
      refine g_iload_n dX9_fill_14 rfl ?_
      refine g_iconst ((-1)) dX9_fill_15 ki_m1 ?_
      refine g_icmp_eq 28 dX9_fill_16 (by decide) (fun c16 => ?_) (fun c16 => ?_)
      · exact absurd c16 c2
      · obtain ⟨e, he, rfl⟩ := inR_true c9
        rw [v2n_nI (show e < 2 ^ 31 by omega)] at h
        refine g_aload_n dX9_fill_19 rfl ?_
        refine g_getr (j := 4) dX9_fill_20 gc9 rfl (by decide) rfl (by decide) fl_F_38 ?_
        refine g_iload_n dX9_fill_23 rfl ?_
        refine g_call1 dX9_fill_24 clH_fillKind ml_F_213 gc4 rfl rfl (by decide) (Nat.le_of_ble_eq_true rfl) ?_
        refine SH_fillKind hB he (fun M2 hE2 hB2 => ?_)
        refine g_ireturn dX9_fill_27 rfl (by first | rfl | exact nar_bI _) ?_
        exact h M2 (FrC.of hE2 (by decide)) hB2
    · rw [if_neg (by rw [c9]; decide)] at h
      refine g_iconst ((-1)) dX9_fill_12 ki_m1 ?_
      refine g_ireturn dX9_fill_13 rfl (by first | rfl | exact nar_bI _) ?_
      exact h M FrC.rf hB
theorem SM_fill (k : Int32) (M : Mm) (S : BS) (Q : Po) (hM : MK (M 58) S) (hC : MC M) (hH : HM S) (h : ∀ M', FrM M M' → MK (M' 58) (f_fill k S).2 → Q M' (some (.int (f_fill k S).1))) : Call 60 mM_fill [.ref 57, .int k] M Q := by
  unfold f_fill at h
  refine Call_of (m := mM_fill) [some (.ref 57), some (.int k), none, none] rfl (fun G => Nat.le_of_ble_eq_true rfl) (fun G => rfl) ?_
  refine g_iload_n dX10_fill_0 rfl ?_
  refine g_iconst ((-1)) dX10_fill_1 ki_m1 ?_
  refine g_icmp_eq 14 dX10_fill_2 (by decide) (fun c2 => ?_) (fun c2 => ?_)
  · rw [if_pos c2] at h
    refine g_iload_n dX10_fill_14 rfl ?_
    refine g_if_lt 24 dX10_fill_15 (by decide) (fun c15 => ?_) (fun c15 => ?_)
    · refine g_iconst (nI 0) dX10_fill_24 ki_0 ?_
      refine g_ist4_2 dX10_fill_25 (by decide) rfl ?_
      refine g_iconst (nI 0) dX10_fill_26 ki_0 ?_
      refine g_ist4_3 dX10_fill_27 (by decide) rfl ?_
      refine loop_up (P := fun i => ∀ M', FrM M M' → MK (M' 58) (fl4 S i).1 → Go mM_fill 60 Q 28 [some (.ref 57), some (.int k), some (.int (nI (fl4 S i).2)), some (.int (nI i))] [] M') 4 ?_ 0 (Nat.zero_le _) M FrM.rf hM
      intro i hi ih M' hE hM'
      have hl := (fl4_OK hM.wf hH (n := i)).2.2
      refine g_iload_n dX10_fill_28 rfl ?_
      refine g_iconst (nI 4) dX10_fill_29 ki_4 ?_
      refine g_icmp_ge_n 47 dX10_fill_30 (by decide) (by omega) (by omega) (fun c30 => ?_) (fun c30 => ?_)
      · refine g_iload_n dX10_fill_47 rfl ?_
        refine g_ireturn dX10_fill_48 rfl (by first | rfl | exact nar_bI _) ?_
        rw [show i = 4 by omega]
        rw [show i = 4 by omega] at hM'
        exact h M' hE hM'
      · refine g_iload_n dX10_fill_33 rfl ?_
        refine g_aload_n dX10_fill_34 rfl ?_
        refine g_iload_n dX10_fill_35 rfl ?_
        refine g_call1 dX10_fill_36 clM_filled ml_M_177 gc10 rfl rfl (by decide) (Nat.le_of_ble_eq_true rfl) ?_
        refine SM_filled hM' (by omega) (fun M2 hE2 hM2 => ?_)
        have hl2 := (flP_OK hM'.wf (fl4_OK hM.wf hH (n := i)).2.1 (k := i) (Nat.le_refl _)).2.2
        have := hM'.wf.nd
        first | refine g_iadd_n dX10_fill_39 ?_ | refine g_iadd dX10_fill_39 ?_
        refine g_ist4_2 dX10_fill_40 (by decide) rfl ?_
        first | refine g_incn4_3 dX10_fill_41 ki_1 (by decide) rfl ?_ | refine g_incg4_3 (nI 1) dX10_fill_41 ki_1 (by decide) rfl ?_
        refine g_goto 28 dX10_fill_44 (by decide) ?_
        exact ih (by omega) M2 (hE.tr (FrM.ofQ hE2 (by decide))) hM2
    · rw [c2] at c15
      exact absurd (show (-1 : Int32) < 0 by decide) c15
  · rw [if_neg c2] at h
    refine g_iload_n dX10_fill_5 rfl ?_
    refine g_calls1 dX10_fill_6 clM_isKind ml_M_117 (Nat.le_of_ble_eq_true rfl) ?_
    refine SM_isKind k ?_
    refine g_if_ne_b 14 dX10_fill_9 (by decide) (fun c9 => ?_) (fun c9 => ?_)
    · rw [if_pos c9] at h
      obtain ⟨e, he, rfl⟩ := inR_true c9
      rw [v2n_nI (show e < 2 ^ 31 by omega)] at h
      refine g_iload_n dX10_fill_14 rfl ?_
      refine g_if_lt_n 24 dX10_fill_15 (by decide) (by omega) ?_
      refine g_aload_n dX10_fill_18 rfl ?_
      refine g_iload_n dX10_fill_19 rfl ?_
      refine g_call1 dX10_fill_20 clM_filled ml_M_177 gc10 rfl rfl (by decide) (Nat.le_of_ble_eq_true rfl) ?_
      refine SM_filled hM he (fun M2 hE2 hM2 => ?_)
      refine g_ireturn dX10_fill_23 rfl (by first | rfl | exact nar_bI _) ?_
      exact h M2 (FrM.ofQ hE2 (by decide)) hM2
    · rw [if_neg (by rw [c9]; decide)] at h
      refine g_iconst ((-1)) dX10_fill_12 ki_m1 ?_
      refine g_ireturn dX10_fill_13 rfl (by first | rfl | exact nar_bI _) ?_
      exact h M FrM.rf hM
theorem both_fill (k : Int32) : Both mF_fill mM_fill [.int k] := both_book (f_fill k) (fun M S Q => SF_fill k M S Q) (fun M S Q => SM_fill k M S Q) (fun S hW hH => by
  unfold f_fill
  split
  · exact (fl4_OK hW hH).2.1
  · split
    · exact (flP_OK hW hH (Nat.le_refl _)).2.1
    · exact hH)
/-! LESSER in the reference, and EASED -/
theorem held_here {S : BS} (hH : HM S) {p k : Nat} (hp : p < 8) (h : hr S p = false) : heldN S p k = 0 := by
  unfold heldN heldF
  rw [cnt_cong (f := fun _ => false) (fun x hx => ?_)]
  · generalize S 1 0 0 = n
    induction n with
    | zero => rfl
    | succ n ih => rw [cnt, ih]; rfl
  · rw [Bool.and_eq_false_iff]
    refine Or.inr ?_
    rw [beq_eq_false_iff_ne]
    intro e
    have e : S 12 x 0 = p := e
    have := hH.here hx (by rw [e]; exact hp)
    rw [e, ← hr_of, h] at this
    cases this
theorem held_up {S : BS} {d p k : Nat} (hd : d < S 1 0 0) (x : Nat) : heldN (up S 12 d 0 p) x k + (if S 11 d 0 = k ∧ S 12 d 0 = x then 1 else 0) = heldN S x k + (if S 11 d 0 = k ∧ p = x then 1 else 0) := by
  have e1 : up S 12 d 0 p 1 0 0 = S 1 0 0 := up_off (by omega)
  have := cnt_one (f := fun y => S 11 y 0 == k && S 12 y 0 == x) (g := fun y => up S 12 d 0 p 11 y 0 == k && up S 12 d 0 p 12 y 0 == x) (d := d) (fun y hy => by
    rw [up_off (a := 11) (by omega), up_off (a := 12) (by omega)]) hd
  rw [up_off (a := 11) (by omega), up_at] at this
  simp only [Bool.and_eq_true, beq_iff_eq] at this
  unfold heldN heldF
  rw [e1]
  exact this
/-- an easing -/
def lsP (S : BS) (k : Nat) : Nat := fstN (fun p => lcP S k p) (S 0 0 0)
def ezS (S : BS) (k : Nat) : BS := shP 8 S (lpP S k (lsP S k)).2 (ltP S k (lsP S k))
theorem lpP_0 {S : BS} {k p : Nat} (hp : p < S 0 0 0) : (lpP S k p).1.getD 0 0 = p := by
  have := (lpP_ok (S := S) (k := k) hp).2.2.1 0 (by simp)
  rw [this]; rfl
theorem ez_held {S : BS} (hW : WF S) {k p : Nat} (hp : p < S 0 0 0) (x : Nat) : heldN (shP 8 S (lpP S k p).2 (ltP S k p)) x k + (if p = x then 1 else 0) = heldN S x k + (if ltP S k p = x then 1 else 0) := by
  obtain ⟨h1, h2⟩ := lpP_ok (S := S) (k := k) hp
  obtain ⟨i, hi, ei⟩ := ltP_ok hW (k := k) hp
  rw [← ei, shP_max hW h1 hi]
  obtain ⟨p2, e2, h3⟩ := shP_ind hW h1 (P := fun S2 p2 => heldN S2 x k + (if p2 = x then 1 else 0) = heldN S x k + (if (lpP S k p).1.getD i 0 = x then 1 else 0)) (fun S2 j hj hS a1 a2 a3 hP => by
    have e1 : S2 1 0 0 = S 1 0 0 := by rw [hS 1 (by decide)]
    have e11 : S2 11 ((lpP S k p).2 ((lpP S k p).1.getD j 0)) 0 = k := by rw [hS 11 (by decide)]; exact a2
    have := held_up (S := S2) (k := k) (d := (lpP S k p).2 ((lpP S k p).1.getD j 0)) (p := (lpP S k p).1.getD j 0) (by rw [e1]; exact a1) x
    rw [e11] at this
    simp only [true_and] at this
    omega) hi (fun j hj hlt => rfl) (fun _ _ => rfl) rfl
  rcases h3 with h3 | h3
  · exact absurd h3.1 (fun z => z)
  · rw [lpP_0 hp] at h3
    rw [h3.2] at e2
    exact e2
/-- what every easing lowers -/
def psi (S : BS) (k : Nat) : Nat := sumN (fun p => (loadN S p k + loadN S p k - heldN S p k) * heldN S p k) (S 0 0 0)
theorem psi_step {L h : Nat} (h1 : h ≤ L) (hp : 0 < h) : ((L - 1) + (L - 1) - (h - 1)) * (h - 1) + (2 * L - 1) = (L + L - h) * h := by
  obtain ⟨c, rfl⟩ : ∃ c, L = c + h := ⟨L - h, by omega⟩
  obtain ⟨g, rfl⟩ : ∃ g, h = g + 1 := ⟨h - 1, by omega⟩
  have e1 : c + (g + 1) - 1 + (c + (g + 1) - 1) - (g + 1 - 1) = c + c + g := by omega
  have e2 : c + (g + 1) + (c + (g + 1)) - (g + 1) = c + c + g + 1 := by omega
  have e3 : g + 1 - 1 = g := by omega
  rw [e1, e2, e3, Nat.mul_succ, Nat.succ_mul (c + c + g) g]
  omega
theorem held_load (S : BS) (p k : Nat) : heldN S p k ≤ loadN S p k := by unfold heldN loadN loadF; omega
theorem load_eq {S T : BS} (h : ∀ a, a ≠ 12 → T a = S a) (p k : Nat) : loadN T p k + heldN S p k = loadN S p k + heldN T p k := by
  have e : ∀ U : BS, loadN U p k = U 5 p k + headN U p k + heldN U p k := fun U => rfl
  have e2 : headN T p k = headN S p k := by unfold headN; rw [h 3 (by decide)]
  rw [e, e, e2, h 5 (by decide)]
  omega
theorem lcP_pos {S : BS} {k p : Nat} (h : lcP S k p = true) : heldN S p k ≠ 0 ∧ loadN S (ltP S k p) k + 2 ≤ loadN S p k := of_decide_eq_true h
theorem psi_less {S : BS} (hW : WF S) {k p : Nat} (hp : p < S 0 0 0) (hl : lcP S k p = true) : psi (shP 8 S (lpP S k p).2 (ltP S k p)) k + 2 ≤ psi S k := by
  obtain ⟨l1, l2⟩ := lcP_pos hl
  obtain ⟨i, hi, ei⟩ := ltP_ok hW (k := k) hp
  have ht : ltP S k p < S 0 0 0 := by rw [← ei]; exact (lpP_ok hp).1.2.1 _ (getD_mem hi)
  have hne : ltP S k p ≠ p := fun e => by rw [e] at l2; omega
  have hx := ez_held hW (k := k) hp
  have hT : ∀ a, a ≠ 12 → shP 8 S (lpP S k p).2 (ltP S k p) a = S a := fun a ha => shP_ho ha
  generalize hTT : shP 8 S (lpP S k p).2 (ltP S k p) = T at hx hT ⊢
  generalize ltP S k p = t at hx ht hne l2
  have hL := load_eq hT
  have e0 : T 0 0 0 = S 0 0 0 := by rw [hT 0 (by decide)]
  unfold psi
  rw [e0]
  -- from S over a middle: one changes, then the other
  have m1 := sumN_one (f := fun x => (loadN S x k + loadN S x k - heldN S x k) * heldN S x k) (g := fun x => if x = p then (loadN T x k + loadN T x k - heldN T x k) * heldN T x k else (loadN S x k + loadN S x k - heldN S x k) * heldN S x k) (d := p) (fun x hx => if_neg hx) hp
  have m2 := sumN_one (f := fun x => if x = p then (loadN T x k + loadN T x k - heldN T x k) * heldN T x k else (loadN S x k + loadN S x k - heldN S x k) * heldN S x k) (g := fun x => (loadN T x k + loadN T x k - heldN T x k) * heldN T x k) (d := t) (fun x hxt => by
    by_cases e : x = p
    · rw [if_pos e]
    · rw [if_neg e]
      have h1 := hx x
      have h2 := hL x k
      rw [if_neg (fun z => e z.symm), if_neg (fun z => hxt z.symm)] at h1
      have h3 : heldN T x k = heldN S x k := by omega
      have h4 : loadN T x k = loadN S x k := by omega
      rw [h3, h4]) ht
  rw [if_pos rfl] at m1
  rw [if_neg hne] at m2
  have hp1 := hx p
  have hp2 := hL p k
  rw [if_pos rfl, if_neg hne] at hp1
  have ht1 := hx t
  have ht2 := hL t k
  rw [if_pos rfl, if_neg (fun z => hne z.symm)] at ht1
  have a1 := held_load S p k
  have a2 := held_load T p k
  have b1 := held_load S t k
  have b2 := held_load T t k
  have s1 := psi_step a1 (by omega)
  have s2 := psi_step b2 (by omega)
  rw [show loadN S p k - 1 = loadN T p k by omega, show heldN S p k - 1 = heldN T p k by omega] at s1
  rw [show loadN T t k - 1 = loadN S t k by omega, show heldN T t k - 1 = heldN S t k by omega] at s2
  have q1 : loadN T t k = loadN S t k + 1 := by omega
  rw [q1] at s2
  rw [q1] at m2
  generalize (loadN S p k + loadN S p k - heldN S p k) * heldN S p k = A at *
  generalize (loadN T p k + loadN T p k - heldN T p k) * heldN T p k = B at *
  generalize (loadN S t k + loadN S t k - heldN S t k) * heldN S t k = C at *
  generalize (loadN S t k + 1 + (loadN S t k + 1) - heldN T t k) * heldN T t k = D at *
  omega
/-! lesser, eases -/
theorem SM_isLesser {d : Nat} {M : Mm} {S : BS} {Q : Po} (hM : MK (M 58) S) (hH : HM S) {k : Nat} (hk : k < 4) (hno : ∀ M', EqQ [63, 64, 65] M M' → (∀ j, j < S 0 0 0 → lcP S k j = false) → Q M' (some (.int (bI false))))
    (hyes : ∀ M' p, EqQ [63, 64, 65] M M' → p < S 0 0 0 → (∀ j, j < p → lcP S k j = false) → lcP S k p = true → M' 57 12 = nI p → M' 57 13 = nI (ltP S k p) → PN M' (lpP S k p) → Q M' (some (.int (bI true)))) : Call (d + 7) mM_isLesser [.ref 57, .int (nI k)] M Q := by
  have hw := hM.wf.np
  have hw2 := hM.wf.nd
  refine Call_of (m := mM_isLesser) [some (.ref 57), some (.int (nI k)), none, none] rfl (fun G => Nat.le_of_ble_eq_true rfl) (fun G => rfl) ?_
  refine g_iconst (nI 0) dX10_isLesser_0 ki_0 ?_
  refine g_ist4_2 dX10_isLesser_1 (by decide) rfl ?_
  refine loop_up (P := fun i => ∀ M', EqQ [63, 64, 65] M M' → (∀ j, j < i → lcP S k j = false) → Go mM_isLesser (d + 7) Q 2 [some (.ref 57), some (.int (nI k)), some (.int (nI i)), none] [] M') (S 0 0 0) ?_ 0 (Nat.zero_le _) M EqQ.rf (fun j hj => absurd hj (by omega))
  intro i hi ih M' hE hlo
  have hM' := hM.eqQ hE (by decide)
  refine g_iload_n dX10_isLesser_2 rfl ?_
  refine g_aload_n dX10_isLesser_3 rfl ?_
  refine g_getr (j := 0) dX10_isLesser_4 gc10 rfl (by decide) rfl (by decide) fl_M_9 ?_
  refine g_iconst (nI 0) dX10_isLesser_7 ki_0 ?_
  refine g_iald_n dX10_isLesser_8 (by first | rfl | assumption) (by first | decide | assumption) (by omega) (by omega) ?_
  try simp (disch := omega) only [hM'.np]
  refine g_icmp_ge_n 85 dX10_isLesser_9 (by decide) (by omega) (by omega) (fun c9 => ?_) (fun c9 => ?_)
  · refine g_iconst (nI 0) dX10_isLesser_85 ki_0 ?_
    refine g_ireturn dX10_isLesser_86 rfl (by first | rfl | exact nar_bI _) ?_
    rw [show i = S 0 0 0 by omega] at hlo
    exact hno _ hE hlo
  · have hin : i < S 0 0 0 := by omega
    have hh24 := heldF_le S (fun d => S 12 d 0) i k
    have hh24' : heldN S i k ≤ 24 := by unfold heldN; omega
    refine g_aload_n dX10_isLesser_12 rfl ?_
    refine g_iload_n dX10_isLesser_13 rfl ?_
    refine g_call1 dX10_isLesser_14 clM_isHere ml_M_100 gc10 rfl rfl (by decide) (Nat.le_of_ble_eq_true rfl) ?_
    refine SM_isHere hM' (by omega) ?_
    refine g_if_eq_b 79 dX10_isLesser_17 (by decide) (fun c17 => ?_) (fun c17 => ?_)
    · have h0 := held_here (k := k) hH (by omega) c17
      first | refine g_incn4_2 dX10_isLesser_79 ki_1 (by decide) rfl ?_ | refine g_incg4_2 (nI 1) dX10_isLesser_79 ki_1 (by decide) rfl ?_
      refine g_goto 2 dX10_isLesser_82 (by decide) ?_
      refine ih (by omega) M' hE (fun x hx => ?_)
      rcases Nat.lt_or_ge x i with y | y
      · exact hlo x y
      · rw [show x = i by omega]; exact decide_eq_false (fun z => z.1 h0)
    · skip
      refine g_aload_n dX10_isLesser_20 rfl ?_
      refine g_iload_n dX10_isLesser_21 rfl ?_
      refine g_iload_n dX10_isLesser_22 rfl ?_
      refine g_call2 dX10_isLesser_23 clM_heldIn ml_M_86 gc10 rfl rfl (by decide) (Nat.le_of_ble_eq_true rfl) ?_
      refine SM_heldInP hM' (by omega) hk ?_
      refine g_if_le_n 79 dX10_isLesser_26 (by decide) (by omega) (fun c26 => ?_) (fun c26 => ?_)
      · first | refine g_incn4_2 dX10_isLesser_79 ki_1 (by decide) rfl ?_ | refine g_incg4_2 (nI 1) dX10_isLesser_79 ki_1 (by decide) rfl ?_
        refine g_goto 2 dX10_isLesser_82 (by decide) ?_
        refine ih (by omega) M' hE (fun x hx => ?_)
        rcases Nat.lt_or_ge x i with y | y
        · exact hlo x y
        · rw [show x = i by omega]; exact decide_eq_false (fun z => z.1 c26)
      · refine g_aload_n dX10_isLesser_29 rfl ?_
        refine g_call0 dX10_isLesser_30 clM_begins ml_M_165 gc10 rfl rfl (by decide) (Nat.le_of_ble_eq_true rfl) ?_
        refine SM_begins (fun M1 hE1 hq1 => ?_)
        have hM1 := hM'.eqQ hE1 (by decide)
        refine g_aload_n dX10_isLesser_33 rfl ?_
        refine g_iload_n dX10_isLesser_34 rfl ?_
        refine g_iconst ((-1)) dX10_isLesser_35 ki_m1 ?_
        refine g_call2 dX10_isLesser_36 clM_comesBy ml_M_159 gc10 rfl rfl (by decide) (Nat.le_of_ble_eq_true rfl) ?_
        refine SM_comesBy hM1 hq1 (by simp) (fun x hx => by simp at hx) (e := 24) hin rfl (fun M2 hE2 hq2 => ?_)
        have hM2 := hM1.eqQ hE2 (by decide)
        have em : meetP ([], fun _ => 24) i 24 = ([i], fun _ => 24) := by
          unfold meetP
          rw [if_neg (by simp)]
          refine Prod.ext (by simp) ?_
          funext x
          dsimp only
          split <;> rfl
        rw [em] at hq2
        refine g_aload_n dX10_isLesser_39 rfl ?_
        refine g_iload_n dX10_isLesser_40 rfl ?_
        refine g_call1 dX10_isLesser_41 clM_goesOn ml_M_168 gc10 rfl rfl (by decide) (Nat.le_of_ble_eq_true rfl) ?_
        refine SM_goesOn hM2 hk hq2 (TR.one S k hin) (fun M3 hE3 hq3 => ?_)
        have hM3 := hM2.eqQ hE3 (by decide)
        have hq3' : PN M3 (lpP S k i) := hq3
        obtain ⟨t1, t2⟩ := lpP_ok (S := S) (k := k) hin
        obtain ⟨j, hj, ej⟩ := ltP_ok hM.wf (k := k) hin
        have hlt : ltP S k i < S 0 0 0 := by rw [← ej]; exact t1.2.1 _ (getD_mem hj)
        have hl1 := load_le hM.wf hk hin
        have hl2 := load_le hM.wf hk hlt
        refine g_aload_n dX10_isLesser_44 rfl ?_
        refine g_iload_n dX10_isLesser_45 rfl ?_
        refine g_call1 dX10_isLesser_46 clM_leastCome ml_M_171 gc10 rfl rfl (by decide) (Nat.le_of_ble_eq_true rfl) ?_
        refine SM_leastCome hM3 hk hq3' t1.2.1 ?_
        rw [show lmP S k (lpP S k i).1 (lpP S k i).1.length = ltP S k i from rfl, hv_p (by omega)]
        refine g_ist4_3 dX10_isLesser_49 (by decide) rfl ?_
        refine g_aload_n dX10_isLesser_50 rfl ?_
        refine g_iload_n dX10_isLesser_51 rfl ?_
        refine g_iload_n dX10_isLesser_52 rfl ?_
        refine g_call2 dX10_isLesser_53 clM_loadOf ml_M_132 gc10 rfl rfl (by decide) (Nat.le_of_ble_eq_true rfl) ?_
        refine SM_loadOf hM3 hlt hk ?_
        refine g_aload_n dX10_isLesser_56 rfl ?_
        refine g_iload_n dX10_isLesser_57 rfl ?_
        refine g_iload_n dX10_isLesser_58 rfl ?_
        refine g_call2 dX10_isLesser_59 clM_loadOf ml_M_132 gc10 rfl rfl (by decide) (Nat.le_of_ble_eq_true rfl) ?_
        refine SM_loadOf hM3 hin hk ?_
        have hE4 := hE.tr ((hE1.sub (by decide)).tr (hE2.tr hE3))
        refine g_iconst (nI 2) dX10_isLesser_62 ki_2 ?_
        rcases Nat.lt_or_ge (loadN S i k) 2 with z | z
        · refine g_isub dX10_isLesser_63 ?_
          have hneg : ¬ nI (loadN S (ltP S k i) k) ≤ nI (loadN S i k) - nI 2 := by
            rw [Int32.le_iff_toInt_le, nI_toInt (by omega), Int32.toInt_sub, nI_toInt (by omega), nI_toInt (by omega), Int.bmod_def]
            split <;> omega
          refine g_icmp_gt 79 dX10_isLesser_64 (by decide) (fun c64 => ?_) (fun c64 => ?_)
          · first | refine g_incn4_2 dX10_isLesser_79 ki_1 (by decide) rfl ?_ | refine g_incg4_2 (nI 1) dX10_isLesser_79 ki_1 (by decide) rfl ?_
            refine g_goto 2 dX10_isLesser_82 (by decide) ?_
            refine Go_sub [some (.ref 57), some (.int (nI k)), some (.int (nI (i + 1))), none] (by simp [subL]) (ih (by omega) M3 hE4 (fun x hx => ?_))
            rcases Nat.lt_or_ge x i with y | y
            · exact hlo x y
            · rw [show x = i by omega]; exact decide_eq_false (by omega)
          · exact absurd (Int32.not_lt.mp c64) hneg
        · refine g_isub_n dX10_isLesser_63 (by omega) ?_
          refine g_icmp_gt_n 79 dX10_isLesser_64 (by decide) (by omega) (by omega) (fun c64 => ?_) (fun c64 => ?_)
          · first | refine g_incn4_2 dX10_isLesser_79 ki_1 (by decide) rfl ?_ | refine g_incg4_2 (nI 1) dX10_isLesser_79 ki_1 (by decide) rfl ?_
            refine g_goto 2 dX10_isLesser_82 (by decide) ?_
            refine Go_sub [some (.ref 57), some (.int (nI k)), some (.int (nI (i + 1))), none] (by simp [subL]) (ih (by omega) M3 hE4 (fun x hx => ?_))
            rcases Nat.lt_or_ge x i with y | y
            · exact hlo x y
            · rw [show x = i by omega]; exact decide_eq_false (by omega)
          · refine g_aload_n dX10_isLesser_67 rfl ?_
            refine g_iload_n dX10_isLesser_68 rfl ?_
            refine g_puti (j := 12) dX10_isLesser_69 gc10 rfl (by decide) rfl (by decide) fl_M_186 rfl (tyX10_ok 12 (by decide)) (by first | rfl | exact nar_bI _) rfl ?_
            refine g_aload_n dX10_isLesser_72 rfl ?_
            refine g_iload_n dX10_isLesser_73 rfl ?_
            refine g_puti (j := 13) dX10_isLesser_74 gc10 rfl (by decide) rfl (by decide) fl_M_189 rfl (tyX10_ok 13 (by decide)) (by first | rfl | exact nar_bI _) rfl ?_
            refine g_iconst (nI 1) dX10_isLesser_77 ki_1 ?_
            refine g_ireturn dX10_isLesser_78 rfl (by first | rfl | exact nar_bI _) ?_
            refine hyes _ i (hE4.tr ((EqQ.set57 (by decide)).tr (EqQ.set57 (by decide)))) hin hlo (decide_eq_true ⟨c26, by omega⟩) (by rw [mset_off (by omega), mset_at]) (by rw [mset_at]) (hq3'.eqO ?_ ?_ ?_ ?_)
            · rw [mset_off (by omega), mset_off (by omega)]
            · rw [mset_ne (by decide), mset_ne (by decide)]
            · rw [mset_ne (by decide), mset_ne (by decide)]
            · rw [mset_ne (by decide), mset_ne (by decide)]
def f_lesser (k w : Int32) (S : BS) : Int32 × BS := (if inR k 4 = true ∧ inR w 3 = true then
    (if w = 0 then bI (decide (lsP S (v2n k) < S 0 0 0)) else if lsP S (v2n k) < S 0 0 0 then (if w = nI 1 then nI (lsP S (v2n k)) else nI (ltP S (v2n k) (lsP S (v2n k)))) else -5) else -1, S)
theorem ls_none {S : BS} {k : Nat} (h : ∀ j, j < S 0 0 0 → lcP S k j = false) : lsP S k = S 0 0 0 := fstN_eq h (Nat.le_refl _)
theorem ls_one {S : BS} {k p : Nat} (hp : p < S 0 0 0) (h : ∀ j, j < p → lcP S k j = false) (h1 : lcP S k p = true) : lsP S k = p := fstN_hit h h1 hp
theorem SH_giver {d : Nat} {M : Mm} {Q : Po} (h : Q M (some (.int (M 31 5)))) : Call (d + 1) mH_giver [.ref 31] M Q := by
  refine Call_of (m := mH_giver) [some (.ref 31)] rfl (fun G => Nat.le_of_ble_eq_true rfl) (fun G => rfl) ?_
  refine g_aload_n dX4_giver_0 rfl ?_
  refine g_geti (j := 5) dX4_giver_1 gc4 rfl (by decide) rfl (by decide) fl_H_30 ?_
  refine g_ireturn dX4_giver_4 rfl (by first | rfl | exact nar_bI _) ?_
  exact h
theorem SH_taker {d : Nat} {M : Mm} {Q : Po} (h : Q M (some (.int (M 31 6)))) : Call (d + 1) mH_taker [.ref 31] M Q := by
  refine Call_of (m := mH_taker) [some (.ref 31)] rfl (fun G => Nat.le_of_ble_eq_true rfl) (fun G => rfl) ?_
  refine g_aload_n dX4_taker_0 rfl ?_
  refine g_geti (j := 6) dX4_taker_1 gc4 rfl (by decide) rfl (by decide) fl_H_33 ?_
  refine g_ireturn dX4_taker_4 rfl (by first | rfl | exact nar_bI _) ?_
  exact h
theorem SF_lesser (k w : Int32) (M : Mm) (S : BS) (Q : Po) (hB : BK M S) (hH : HM S) (h : ∀ M', FrC M M' → BK M' (f_lesser k w S).2 → Q M' (some (.int (f_lesser k w S).1))) : Call 60 mF_lesser [.ref 0, .int k, .int w] M Q := by
  unfold f_lesser at h
  dsimp only at h
  have hw := hB.wf.np
  refine Call_of (m := mF_lesser) [some (.ref 0), some (.int k), some (.int w), none] rfl (fun G => Nat.le_of_ble_eq_true rfl) (fun G => rfl) ?_
  refine g_iload_n dX9_lesser_0 rfl ?_
  refine g_calls1 dX9_lesser_1 clF_isKind ml_F_106 (Nat.le_of_ble_eq_true rfl) ?_
  refine SF_isKind k ?_
  refine g_if_eq_b 16 dX9_lesser_4 (by decide) (fun c4 => ?_) (fun c4 => ?_)
  · rw [if_neg (by rw [c4]; simp)] at h
    refine g_iconst ((-1)) dX9_lesser_16 ki_m1 ?_
    refine g_ireturn dX9_lesser_17 rfl (by first | rfl | exact nar_bI _) ?_
    exact h M FrC.rf hB
  · obtain ⟨e, he, rfl⟩ := inR_true c4
    rw [v2n_nI (show e < 2 ^ 31 by omega)] at h
    refine g_iload_n dX9_lesser_7 rfl ?_
    refine g_if_lt 16 dX9_lesser_8 (by decide) (fun c8 => ?_) (fun c8 => ?_)
    · rw [if_neg (by rw [inR_f1 c8]; simp)] at h
      refine g_iconst ((-1)) dX9_lesser_16 ki_m1 ?_
      refine g_ireturn dX9_lesser_17 rfl (by first | rfl | exact nar_bI _) ?_
      exact h M FrC.rf hB
    · refine g_iload_n dX9_lesser_11 rfl ?_
      refine g_iconst (nI 2) dX9_lesser_12 ki_2 ?_
      refine g_icmp_le 18 dX9_lesser_13 (by decide) (fun c13 => ?_) (fun c13 => ?_)
      · have hin : inR w 3 = true := inR_le (by omega) c8 c13
        rw [if_pos ⟨c4, hin⟩] at h
        refine g_aload_n dX9_lesser_18 rfl ?_
        refine g_getr (j := 4) dX9_lesser_19 gc9 rfl (by decide) rfl (by decide) fl_F_38 ?_
        refine g_iload_n dX9_lesser_22 rfl ?_
        refine g_call1 dX9_lesser_23 clH_findLesser ml_F_219 gc4 rfl rfl (by decide) (Nat.le_of_ble_eq_true rfl) ?_
        refine SH_findLesser hB he (fun M' hE hno _ _ => ?_) (fun M' p hE hp hlo hone e5 e6 hq => ?_)
        · have e1 : lsP S e = S 0 0 0 := ls_none hno
          rw [e1] at h
          have hB' := hB.eqO hE (by decide)
          refine g_ist4_3 dX9_lesser_26 (by decide) rfl ?_
          refine g_iload_n dX9_lesser_27 rfl ?_
          refine g_if_ne 41 dX9_lesser_28 (by decide) (fun c28 => ?_) (fun c28 => ?_)
          · rw [if_neg c28, if_neg (by omega)] at h
            refine g_iload_n dX9_lesser_41 rfl ?_
            refine g_if_ne_ff 48 dX9_lesser_42 (by decide) ?_
            refine g_bipush ((-5)) dX9_lesser_45 kb_m5 ?_
            refine g_ireturn dX9_lesser_47 rfl (by first | rfl | exact nar_bI _) ?_
            exact h M' (FrC.of hE (by decide)) hB'
          · rw [if_pos c28, decide_eq_false (by omega)] at h
            refine g_iload_n dX9_lesser_31 rfl ?_
            refine g_if_eq_ff 39 dX9_lesser_32 (by decide) ?_
            refine g_iconst (nI 0) dX9_lesser_39 ki_0 ?_
            refine g_ireturn dX9_lesser_40 rfl (by first | rfl | exact nar_bI _) ?_
            exact h M' (FrC.of hE (by decide)) hB'
        · have e1 : lsP S e = p := ls_one hp hlo hone
          rw [e1] at h
          have hB' := hB.eqO hE (by decide)
          have h2 := h M' (FrC.of hE (by decide)) hB'
          clear h
          refine g_ist4_3 dX9_lesser_26 (by decide) rfl ?_
          refine g_iload_n dX9_lesser_27 rfl ?_
          refine g_if_ne 41 dX9_lesser_28 (by decide) (fun c28 => ?_) (fun c28 => ?_)
          · rw [if_neg c28, if_pos hp] at h2
            refine g_iload_n dX9_lesser_41 rfl ?_
            refine g_if_ne_tt 48 dX9_lesser_42 (by decide) ?_
            refine g_iload_n dX9_lesser_48 rfl ?_
            refine g_iconst (nI 1) dX9_lesser_49 ki_1 ?_
            refine g_icmp_ne 63 dX9_lesser_50 (by decide) (fun c50 => ?_) (fun c50 => ?_)
            · rw [if_neg c50] at h2
              refine g_aload_n dX9_lesser_63 rfl ?_
              refine g_getr (j := 4) dX9_lesser_64 gc9 rfl (by decide) rfl (by decide) fl_F_38 ?_
              refine g_call0 dX9_lesser_67 clH_taker ml_F_225 gc4 rfl rfl (by decide) (Nat.le_of_ble_eq_true rfl) ?_
              refine SH_taker ?_
              refine g_ireturn dX9_lesser_70 rfl (by first | rfl | exact nar_bI _) ?_
              rw [e6]
              exact h2
            · rw [if_pos c50] at h2
              refine g_aload_n dX9_lesser_53 rfl ?_
              refine g_getr (j := 4) dX9_lesser_54 gc9 rfl (by decide) rfl (by decide) fl_F_38 ?_
              refine g_call0 dX9_lesser_57 clH_giver ml_F_222 gc4 rfl rfl (by decide) (Nat.le_of_ble_eq_true rfl) ?_
              refine SH_giver ?_
              refine g_goto 70 dX9_lesser_60 (by decide) ?_
              refine g_ireturn dX9_lesser_70 rfl (by first | rfl | exact nar_bI _) ?_
              rw [e5]
              exact h2
          · rw [if_pos c28, decide_eq_true hp] at h2
            refine g_iload_n dX9_lesser_31 rfl ?_
            refine g_if_eq_tt 39 dX9_lesser_32 (by decide) ?_
            refine g_iconst (nI 1) dX9_lesser_35 ki_1 ?_
            refine g_goto 40 dX9_lesser_36 (by decide) ?_
            refine g_ireturn dX9_lesser_40 rfl (by first | rfl | exact nar_bI _) ?_
            exact h2
      · rw [if_neg (by rw [inR_nle (by omega) c13]; simp)] at h
        refine g_iconst ((-1)) dX9_lesser_16 ki_m1 ?_
        refine g_ireturn dX9_lesser_17 rfl (by first | rfl | exact nar_bI _) ?_
        exact h M FrC.rf hB
theorem SM_lesser (k w : Int32) (M : Mm) (S : BS) (Q : Po) (hM : MK (M 58) S) (hC : MC M) (hH : HM S) (h : ∀ M', FrM M M' → MK (M' 58) (f_lesser k w S).2 → Q M' (some (.int (f_lesser k w S).1))) : Call 60 mM_lesser [.ref 57, .int k, .int w] M Q := by
  unfold f_lesser at h
  dsimp only at h
  have hw := hM.wf.np
  refine Call_of (m := mM_lesser) [some (.ref 57), some (.int k), some (.int w), none] rfl (fun G => Nat.le_of_ble_eq_true rfl) (fun G => rfl) ?_
  refine g_iload_n dX10_lesser_0 rfl ?_
  refine g_calls1 dX10_lesser_1 clM_isKind ml_M_117 (Nat.le_of_ble_eq_true rfl) ?_
  refine SM_isKind k ?_
  refine g_if_eq_b 19 dX10_lesser_4 (by decide) (fun c4 => ?_) (fun c4 => ?_)
  · rw [if_neg (by rw [c4]; simp)] at h
    refine g_iconst ((-1)) dX10_lesser_19 ki_m1 ?_
    refine g_ireturn dX10_lesser_20 rfl (by first | rfl | exact nar_bI _) ?_
    exact h M FrM.rf hM
  · obtain ⟨e, he, rfl⟩ := inR_true c4
    rw [v2n_nI (show e < 2 ^ 31 by omega)] at h
    refine g_iload_n dX10_lesser_7 rfl ?_
    refine g_i2l dX10_lesser_8 ?_
    refine g_lconst (0) dX10_lesser_9 (by decide) ?_
    refine g_ldc2w (2) dX10_lesser_10 kl_M_192 ?_
    refine g_calls3 dX10_lesser_13 clM_in ml_M_68 (Nat.le_of_ble_eq_true rfl) ?_
    refine SM_in _ _ _ ?_
    rw [inJ_L (n := 3) (by decide)]
    refine g_if_ne_b 21 dX10_lesser_16 (by decide) (fun c16 => ?_) (fun c16 => ?_)
    · rw [if_pos ⟨c4, c16⟩] at h
      refine g_aload_n dX10_lesser_21 rfl ?_
      refine g_iload_n dX10_lesser_22 rfl ?_
      refine g_call1 dX10_lesser_23 clM_isLesser ml_M_194 gc10 rfl rfl (by decide) (Nat.le_of_ble_eq_true rfl) ?_
      refine SM_isLesser hM hH he (fun M' hE hno => ?_) (fun M' p hE hp hlo hone e5 e6 hq => ?_)
      · have e1 : lsP S e = S 0 0 0 := ls_none hno
        rw [e1] at h
        have h2 := h M' (FrM.ofQ hE (by decide)) (hM.eqQ hE (by decide))
        clear h
        refine g_ist4_3 dX10_lesser_26 (by decide) rfl ?_
        refine g_iload_n dX10_lesser_27 rfl ?_
        refine g_if_ne 43 dX10_lesser_28 (by decide) (fun c28 => ?_) (fun c28 => ?_)
        · rw [if_neg c28, if_neg (by omega)] at h2
          refine g_iload_n dX10_lesser_43 rfl ?_
          refine g_if_ne_ff 52 dX10_lesser_44 (by decide) ?_
          refine g_bipush ((-5)) dX10_lesser_47 kb_m5 ?_
          refine g_goto 68 dX10_lesser_49 (by decide) ?_
          refine g_ireturn dX10_lesser_68 rfl (by first | rfl | exact nar_bI _) ?_
          exact h2
        · rw [if_pos c28, decide_eq_false (by omega)] at h2
          refine g_iload_n dX10_lesser_31 rfl ?_
          refine g_if_eq_ff 39 dX10_lesser_32 (by decide) ?_
          refine g_iconst (nI 0) dX10_lesser_39 ki_0 ?_
          refine g_goto 68 dX10_lesser_40 (by decide) ?_
          refine g_ireturn dX10_lesser_68 rfl (by first | rfl | exact nar_bI _) ?_
          exact h2
      · have e1 : lsP S e = p := ls_one hp hlo hone
        rw [e1] at h
        have h2 := h M' (FrM.ofQ hE (by decide)) (hM.eqQ hE (by decide))
        clear h
        refine g_ist4_3 dX10_lesser_26 (by decide) rfl ?_
        refine g_iload_n dX10_lesser_27 rfl ?_
        refine g_if_ne 43 dX10_lesser_28 (by decide) (fun c28 => ?_) (fun c28 => ?_)
        · rw [if_neg c28, if_pos hp] at h2
          refine g_iload_n dX10_lesser_43 rfl ?_
          refine g_if_ne_tt 52 dX10_lesser_44 (by decide) ?_
          refine g_iload_n dX10_lesser_52 rfl ?_
          refine g_iconst (nI 1) dX10_lesser_53 ki_1 ?_
          refine g_icmp_ne 64 dX10_lesser_54 (by decide) (fun c54 => ?_) (fun c54 => ?_)
          · rw [if_neg c54] at h2
            refine g_aload_n dX10_lesser_64 rfl ?_
            refine g_geti (j := 13) dX10_lesser_65 gc10 rfl (by decide) rfl (by decide) fl_M_189 ?_
            try simp (disch := omega) only [e5, e6]
            refine g_ireturn dX10_lesser_68 rfl (by first | rfl | exact nar_bI _) ?_
            exact h2
          · rw [if_pos c54] at h2
            refine g_aload_n dX10_lesser_57 rfl ?_
            refine g_geti (j := 12) dX10_lesser_58 gc10 rfl (by decide) rfl (by decide) fl_M_186 ?_
            try simp (disch := omega) only [e5, e6]
            refine g_goto 68 dX10_lesser_61 (by decide) ?_
            refine g_ireturn dX10_lesser_68 rfl (by first | rfl | exact nar_bI _) ?_
            exact h2
        · rw [if_pos c28, decide_eq_true hp] at h2
          refine g_iload_n dX10_lesser_31 rfl ?_
          refine g_if_eq_tt 39 dX10_lesser_32 (by decide) ?_
          refine g_iconst (nI 1) dX10_lesser_35 ki_1 ?_
          refine g_goto 68 dX10_lesser_36 (by decide) ?_
          refine g_ireturn dX10_lesser_68 rfl (by first | rfl | exact nar_bI _) ?_
          exact h2
    · rw [if_neg (by rw [c16]; simp)] at h
      refine g_iconst ((-1)) dX10_lesser_19 ki_m1 ?_
      refine g_ireturn dX10_lesser_20 rfl (by first | rfl | exact nar_bI _) ?_
      exact h M FrM.rf hM
theorem both_lesser (k w : Int32) : Both mF_lesser mM_lesser [.int k, .int w] := both_book (f_lesser k w) (fun M S Q => SF_lesser k w M S Q) (fun M S Q => SM_lesser k w M S Q) (fun S hW hH => hH)
/-! eases -/
theorem sumN_add (f g : Nat → Nat) : ∀ n, sumN (fun x => f x + g x) n = sumN f n + sumN g n
  | 0 => rfl
  | n + 1 => by rw [sumN, sumN, sumN, sumN_add f g n]; omega
theorem sumN_le {f g : Nat → Nat} : ∀ {n : Nat}, (∀ x, x < n → f x ≤ g x) → sumN f n ≤ sumN g n
  | 0, _ => Nat.le_refl _
  | n + 1, h => by
    rw [sumN, sumN]
    have h1 := sumN_le (n := n) (fun x hx => h x (by omega))
    have h2 := h n (by omega)
    omega
theorem sumN_mul (f : Nat → Nat) (c : Nat) : ∀ n, sumN (fun x => c * f x) n = c * sumN f n
  | 0 => rfl
  | n + 1 => by rw [sumN, sumN, sumN_mul f c n, Nat.mul_add]
theorem sumN_ind (a : Nat) : ∀ n, sumN (fun x => if a = x then 1 else 0) n ≤ 1 ∧ (n ≤ a → sumN (fun x => if a = x then 1 else 0) n = 0)
  | 0 => ⟨Nat.zero_le _, fun _ => rfl⟩
  | n + 1 => by
    obtain ⟨h1, h2⟩ := sumN_ind a n
    rw [sumN]
    by_cases e : a = n
    · rw [if_pos e]
      have := h2 (by omega)
      exact ⟨by omega, fun z => by omega⟩
    · rw [if_neg e]
      exact ⟨by omega, fun z => by have := h2 (by omega); omega⟩
theorem sum_cnt (a b : Nat → Nat) (k m : Nat) : ∀ n, sumN (fun x => cnt (fun d => a d == k && b d == x) n) m ≤ n
  | 0 => by
    have : ∀ m, sumN (fun _ => 0) m = 0 := fun m => by
      induction m with
      | zero => rfl
      | succ m ih => rw [sumN, ih]
    exact Nat.le_of_eq (this m)
  | n + 1 => by
    have h1 := sum_cnt a b k m n
    have h2 : sumN (fun x => cnt (fun d => a d == k && b d == x) (n + 1)) m ≤ sumN (fun x => cnt (fun d => a d == k && b d == x) n + (if b n = x then 1 else 0)) m := sumN_le (fun x hx => by
      rw [cnt]
      by_cases e : b n = x
      · rw [if_pos e]; split <;> omega
      · rw [if_neg e, if_neg (by simp [e])]; omega)
    rw [sumN_add] at h2
    have h3 := (sumN_ind (b n) m).1
    omega
theorem psi_le {S : BS} (hW : WF S) {k : Nat} (hk : k < 4) : psi S k ≤ 50000 := by
  have hw := hW.np
  have hw2 := hW.nd
  have h1 : psi S k ≤ sumN (fun p => 2050 * heldN S p k) (S 0 0 0) := sumN_le (fun p hp => by
    have h1 := load_le hW hk hp
    have h2 := held_load S p k
    exact Nat.mul_le_mul_right _ (by omega))
  rw [sumN_mul] at h1
  have h2 : sumN (fun p => heldN S p k) (S 0 0 0) ≤ S 1 0 0 := sum_cnt (fun d => S 11 d 0) (fun d => S 12 d 0) k (S 0 0 0) (S 1 0 0)
  omega
theorem lsP_c (S : BS) (k : Nat) : (lsP S k = S 0 0 0 ∧ ∀ j, j < S 0 0 0 → lcP S k j = false) ∨ (lsP S k < S 0 0 0 ∧ lcP S k (lsP S k) = true ∧ ∀ j, j < lsP S k → lcP S k j = false) := by
  unfold lsP
  have key : ∀ n, (fstN (fun p => lcP S k p) n = n ∧ ∀ j, j < n → lcP S k j = false) ∨ (fstN (fun p => lcP S k p) n < n ∧ lcP S k (fstN (fun p => lcP S k p) n) = true ∧ ∀ j, j < fstN (fun p => lcP S k p) n → lcP S k j = false) := by
    intro n
    induction n with
    | zero => exact Or.inl ⟨rfl, fun j hj => absurd hj (by omega)⟩
    | succ n ih =>
      rw [fstN]
      rcases ih with ⟨h1, h2⟩ | ⟨h1, h2, h3⟩
      · rw [h1, if_neg (by omega)]
        by_cases e : lcP S k n = true
        · rw [if_pos e]
          exact Or.inr ⟨by omega, e, h2⟩
        · rw [if_neg e]
          refine Or.inl ⟨rfl, fun j hj => ?_⟩
          rcases Nat.lt_or_ge j n with z | z
          · exact h2 j z
          · rw [show j = n by omega]; simpa using e
      · rw [if_pos h1]
        exact Or.inr ⟨by omega, h2, h3⟩
  exact key _
def ez (k : Nat) : Nat → BS → BS × Nat
  | 0, S => (S, 0)
  | f + 1, S => if lsP S k < S 0 0 0 then ((ez k f (ezS S k)).1, (ez k f (ezS S k)).2 + 1) else (S, 0)
theorem ez_none {S : BS} {k : Nat} (h : ∀ j, j < S 0 0 0 → lcP S k j = false) : ∀ f, ez k f S = (S, 0)
  | 0 => rfl
  | f + 1 => by rw [ez, if_neg (by rw [ls_none h]; omega)]
theorem ezS_eq {S : BS} {k p : Nat} (h : lsP S k = p) : ezS S k = shP 8 S (lpP S k p).2 (ltP S k p) := by unfold ezS; rw [h]
theorem ez_some {S : BS} {k p : Nat} (hp : p < S 0 0 0) (h : lsP S k = p) (f : Nat) : ez k (f + 1) S = ((ez k f (shP 8 S (lpP S k p).2 (ltP S k p))).1, (ez k f (shP 8 S (lpP S k p).2 (ltP S k p))).2 + 1) := by
  rw [ez, if_pos (by omega), ezS_eq h]
theorem ez_OK {k : Nat} : ∀ {f : Nat} {S : BS}, WF S → HM S → WF (ez k f S).1 ∧ HM (ez k f S).1 ∧ (ez k f S).2 ≤ f
  | 0, S, hW, hH => ⟨hW, hH, Nat.le_refl 0⟩
  | f + 1, S, hW, hH => by
    rw [ez]
    split
    · rename_i hp
      obtain ⟨i, hi, ei⟩ := ltP_ok hW (k := k) hp
      have h1 := (lpP_ok (S := S) (k := k) hp).1
      have h2 : WF (ezS S k) := by unfold ezS; rw [← ei]; exact shP_WF hW h1 hi
      have h3 : HM (ezS S k) := by unfold ezS; rw [← ei]; exact shP_HO hW h1 hH hi
      obtain ⟨a1, a2, a3⟩ := ez_OK (k := k) (f := f) h2 h3
      exact ⟨a1, a2, by dsimp only; omega⟩
    · exact ⟨hW, hH, Nat.zero_le _⟩
theorem SH_easeKind {d : Nat} {M : Mm} {S : BS} {Q : Po} (hB : BK M S) {k : Nat} (hk : k < 4) (h : ∀ M', EqO [2, 31, 32, 33, 34] M M' → BK M' (ez k (psi S k) S).1 → Q M' (some (.int (nI (ez k (psi S k) S).2)))) : Call (d + 7) mH_easeKind [.ref 31, .int (nI k)] M Q := by
  have hps := psi_le hB.wf hk
  refine Call_of (m := mH_easeKind) [some (.ref 31), some (.int (nI k)), none] rfl (fun G => Nat.le_of_ble_eq_true rfl) (fun G => rfl) ?_
  refine g_iconst (nI 0) dX4_easeKind_0 ki_0 ?_
  refine g_ist3_2 dX4_easeKind_1 (by decide) rfl ?_
  suffices hloop : ∀ f (M' : Mm) (S' : BS) (n : Nat), EqO [2, 31, 32, 33, 34] M M' → BK M' S' → psi S' k ≤ f → n + f ≤ 50000 → (∀ M2, EqO [2, 31, 32, 33, 34] M M2 → BK M2 (ez k f S').1 → Q M2 (some (.int (nI (n + (ez k f S').2))))) → Go mH_easeKind (d + 7) Q 2 [some (.ref 31), some (.int (nI k)), some (.int (nI n))] [] M' by
    refine hloop (psi S k) M S 0 EqO.rf hB (Nat.le_refl _) (by omega) (fun M2 hE2 hB2 => ?_)
    rw [Nat.zero_add]
    exact h M2 hE2 hB2
  intro f
  induction f with
  | zero =>
    intro M' S' n hE hB' hp hn hQ
    refine g_iload_n dX4_easeKind_2 rfl ?_
    refine g_ldc (1000000) dX4_easeKind_3 kc_H_67 ?_
    rw [show (1000000 : Int32) = nI 1000000 from rfl]
    refine g_icmp_ge_n 30 dX4_easeKind_5 (by decide) (by omega) (by omega) (fun c5 => ?_) (fun c5 => ?_)
    · exact absurd c5 (by omega)
    · refine g_aload_n dX4_easeKind_8 rfl ?_
      refine g_iload_n dX4_easeKind_9 rfl ?_
      refine g_call1 dX4_easeKind_10 clH_findLesser ml_H_68 gc4 rfl rfl (by decide) (Nat.le_of_ble_eq_true rfl) ?_
      refine SH_findLesser hB' hk (fun M1 hE1 hno _ _ => ?_) (fun M1 p hE1 hlt hlo hone e5 e6 hq => ?_)
      · refine g_if_eq_ff 30 dX4_easeKind_13 (by decide) ?_
        refine g_iload_n dX4_easeKind_30 rfl ?_
        refine g_ireturn dX4_easeKind_31 rfl (by first | rfl | exact nar_bI _) ?_
        exact hQ M1 (hE.tr (hE1.sub (by decide))) (hB'.eqO hE1 (by decide))
      · have := psi_less hB'.wf hlt hone
        omega
  | succ f ih =>
    intro M' S' n hE hB' hp hn hQ
    refine g_iload_n dX4_easeKind_2 rfl ?_
    refine g_ldc (1000000) dX4_easeKind_3 kc_H_67 ?_
    rw [show (1000000 : Int32) = nI 1000000 from rfl]
    refine g_icmp_ge_n 30 dX4_easeKind_5 (by decide) (by omega) (by omega) (fun c5 => ?_) (fun c5 => ?_)
    · exact absurd c5 (by omega)
    · refine g_aload_n dX4_easeKind_8 rfl ?_
      refine g_iload_n dX4_easeKind_9 rfl ?_
      refine g_call1 dX4_easeKind_10 clH_findLesser ml_H_68 gc4 rfl rfl (by decide) (Nat.le_of_ble_eq_true rfl) ?_
      refine SH_findLesser hB' hk (fun M1 hE1 hno _ _ => ?_) (fun M1 p hE1 hlt hlo hone e5 e6 hq => ?_)
      · refine g_if_eq_ff 30 dX4_easeKind_13 (by decide) ?_
        refine g_iload_n dX4_easeKind_30 rfl ?_
        refine g_ireturn dX4_easeKind_31 rfl (by first | rfl | exact nar_bI _) ?_
        have := hQ M1 (hE.tr (hE1.sub (by decide)))
        rw [ez_none hno] at this
        exact this (hB'.eqO hE1 (by decide))
      · have hB1 := hB'.eqO hE1 (by decide)
        have hps2 := psi_less hB'.wf hlt hone
        obtain ⟨i, hi, ei⟩ := ltP_ok hB'.wf (k := k) hlt
        refine g_if_eq_tt 30 dX4_easeKind_13 (by decide) ?_
        refine g_aload_n dX4_easeKind_16 rfl ?_
        refine g_aload_n dX4_easeKind_17 rfl ?_
        refine g_geti (j := 6) dX4_easeKind_18 gc4 rfl (by decide) rfl (by decide) fl_H_33 ?_
        try simp (disch := omega) only [e6]
        refine g_call1 dX4_easeKind_21 clH_shiftTo ml_H_64 gc4 rfl rfl (by decide) (Nat.le_of_ble_eq_true rfl) ?_
        rw [← ei]
        refine SH_shiftTo hB1 hq (lpP_ok hlt).1 hi (fun M2 hE2 hB2 => ?_)
        first | refine g_incn3_2 dX4_easeKind_24 ki_1 (by decide) rfl ?_ | refine g_incg3_2 (nI 1) dX4_easeKind_24 ki_1 (by decide) rfl ?_
        refine g_goto 2 dX4_easeKind_27 (by decide) ?_
        rw [ei] at hB2
        refine ih M2 _ (n + 1) (hE.tr ((hE1.sub (by decide)).tr (hE2.sub (by decide)))) hB2 (by omega) (by omega) (fun M3 hE3 hB3 => ?_)
        have := hQ M3 hE3
        rw [ez_some hlt (ls_one hlt hlo hone)] at this
        have := this hB3
        dsimp only at this
        rw [show n + 1 + (ez k f (shP 8 S' (lpP S' k p).2 (ltP S' k p))).2 = n + ((ez k f (shP 8 S' (lpP S' k p).2 (ltP S' k p))).2 + 1) by omega]
        exact this
def f_eases (k : Int32) (S : BS) : Int32 × BS := if inR k 4 = true then (nI (ez (v2n k) (psi S (v2n k)) S).2, (ez (v2n k) (psi S (v2n k)) S).1) else (-1, S)
theorem SF_eases (k : Int32) (M : Mm) (S : BS) (Q : Po) (hB : BK M S) (hH : HM S) (h : ∀ M', FrC M M' → BK M' (f_eases k S).2 → Q M' (some (.int (f_eases k S).1))) : Call 60 mF_eases [.ref 0, .int k] M Q := by
  unfold f_eases at h
  refine Call_of (m := mF_eases) [some (.ref 0), some (.int k)] rfl (fun G => Nat.le_of_ble_eq_true rfl) (fun G => rfl) ?_
  refine g_iload_n dX9_eases_0 rfl ?_
  refine g_calls1 dX9_eases_1 clF_isKind ml_F_106 (Nat.le_of_ble_eq_true rfl) ?_
  refine SF_isKind k ?_
  refine g_if_eq_b 18 dX9_eases_4 (by decide) (fun c4 => ?_) (fun c4 => ?_)
  · rw [if_neg (by rw [c4]; decide)] at h
    refine g_iconst ((-1)) dX9_eases_18 ki_m1 ?_
    refine g_ireturn dX9_eases_19 rfl (by first | rfl | exact nar_bI _) ?_
    exact h M FrC.rf hB
  · obtain ⟨e, he, rfl⟩ := inR_true c4
    rw [if_pos c4, v2n_nI (show e < 2 ^ 31 by omega)] at h
    refine g_aload_n dX9_eases_7 rfl ?_
    refine g_getr (j := 4) dX9_eases_8 gc9 rfl (by decide) rfl (by decide) fl_F_38 ?_
    refine g_iload_n dX9_eases_11 rfl ?_
    refine g_call1 dX9_eases_12 clH_easeKind ml_F_228 gc4 rfl rfl (by decide) (Nat.le_of_ble_eq_true rfl) ?_
    refine SH_easeKind hB he (fun M' hE hB' => ?_)
    refine g_goto 19 dX9_eases_15 (by decide) ?_
    refine g_ireturn dX9_eases_19 rfl (by first | rfl | exact nar_bI _) ?_
    exact h M' (FrC.of hE (by decide)) hB'
theorem SM_eases (k : Int32) (M : Mm) (S : BS) (Q : Po) (hM : MK (M 58) S) (hC : MC M) (hH : HM S) (h : ∀ M', FrM M M' → MK (M' 58) (f_eases k S).2 → Q M' (some (.int (f_eases k S).1))) : Call 60 mM_eases [.ref 57, .int k] M Q := by
  unfold f_eases at h
  refine Call_of (m := mM_eases) [some (.ref 57), some (.int k), none] rfl (fun G => Nat.le_of_ble_eq_true rfl) (fun G => rfl) ?_
  refine g_iload_n dX10_eases_0 rfl ?_
  refine g_calls1 dX10_eases_1 clM_isKind ml_M_117 (Nat.le_of_ble_eq_true rfl) ?_
  refine SM_isKind k ?_
  refine g_if_ne_b 9 dX10_eases_4 (by decide) (fun c4 => ?_) (fun c4 => ?_)
  · obtain ⟨e, he, rfl⟩ := inR_true c4
    rw [if_pos c4, v2n_nI (show e < 2 ^ 31 by omega)] at h
    have hps := psi_le hM.wf he
    refine g_iconst (nI 0) dX10_eases_9 ki_0 ?_
    refine g_ist3_2 dX10_eases_10 (by decide) rfl ?_
    suffices hloop : ∀ f (M' : Mm) (S' : BS) (n : Nat), FrM M M' → MK (M' 58) S' → HM S' → psi S' e ≤ f → n + f ≤ 50000 → (∀ M2, FrM M M2 → MK (M2 58) (ez e f S').1 → Q M2 (some (.int (nI (n + (ez e f S').2))))) → Go mM_eases 60 Q 11 [some (.ref 57), some (.int (nI e)), some (.int (nI n))] [] M' by
      refine hloop (psi S e) M S 0 FrM.rf hM hH (Nat.le_refl _) (by omega) (fun M2 hE2 hB2 => ?_)
      rw [Nat.zero_add]
      exact h M2 hE2 hB2
    intro f
    induction f with
    | zero =>
      intro M' S' n hE hM' hH' hp hn hQ
      refine g_aload_n dX10_eases_11 rfl ?_
      refine g_iload_n dX10_eases_12 rfl ?_
      refine g_call1 dX10_eases_13 clM_isLesser ml_M_194 gc10 rfl rfl (by decide) (Nat.le_of_ble_eq_true rfl) ?_
      refine SM_isLesser hM' hH' he (fun M1 hE1 hno => ?_) (fun M1 p hE1 hlt hlo hone e5 e6 hq => ?_)
      · refine g_if_eq_ff 33 dX10_eases_16 (by decide) ?_
        refine g_iload_n dX10_eases_33 rfl ?_
        refine g_ireturn dX10_eases_34 rfl (by first | rfl | exact nar_bI _) ?_
        exact hQ M1 (hE.tr (FrM.ofQ hE1 (by decide))) (hM'.eqQ hE1 (by decide))
      · have := psi_less hM'.wf hlt hone
        omega
    | succ f ih =>
      intro M' S' n hE hM' hH' hp hn hQ
      refine g_aload_n dX10_eases_11 rfl ?_
      refine g_iload_n dX10_eases_12 rfl ?_
      refine g_call1 dX10_eases_13 clM_isLesser ml_M_194 gc10 rfl rfl (by decide) (Nat.le_of_ble_eq_true rfl) ?_
      refine SM_isLesser hM' hH' he (fun M1 hE1 hno => ?_) (fun M1 p hE1 hlt hlo hone e5 e6 hq => ?_)
      · refine g_if_eq_ff 33 dX10_eases_16 (by decide) ?_
        refine g_iload_n dX10_eases_33 rfl ?_
        refine g_ireturn dX10_eases_34 rfl (by first | rfl | exact nar_bI _) ?_
        have := hQ M1 (hE.tr (FrM.ofQ hE1 (by decide)))
        rw [ez_none hno] at this
        exact this (hM'.eqQ hE1 (by decide))
      · have hM1 := hM'.eqQ hE1 (by decide)
        have hps2 := psi_less hM'.wf hlt hone
        obtain ⟨i, hi, ei⟩ := ltP_ok hM'.wf (k := e) hlt
        have h1 := (lpP_ok (S := S') (k := e) hlt).1
        have hHn := shP_HO hM'.wf h1 hH' hi
        refine g_if_eq_tt 33 dX10_eases_16 (by decide) ?_
        refine g_aload_n dX10_eases_19 rfl ?_
        refine g_aload_n dX10_eases_20 rfl ?_
        refine g_geti (j := 13) dX10_eases_21 gc10 rfl (by decide) rfl (by decide) fl_M_189 ?_
        try simp (disch := omega) only [e6]
        refine g_call1 dX10_eases_24 clM_shifts ml_M_174 gc10 rfl rfl (by decide) (Nat.le_of_ble_eq_true rfl) ?_
        rw [← ei]
        refine SM_shifts hM1 hq h1 hi (fun M2 hE2 hM2 => ?_)
        first | refine g_incn3_2 dX10_eases_27 ki_1 (by decide) rfl ?_ | refine g_incg3_2 (nI 1) dX10_eases_27 ki_1 (by decide) rfl ?_
        refine g_goto 11 dX10_eases_30 (by decide) ?_
        rw [ei] at hM2 hHn
        refine ih M2 _ (n + 1) (hE.tr ((FrM.ofQ hE1 (by decide)).tr (FrM.of hE2 (by decide)))) hM2 hHn (by omega) (by omega) (fun M3 hE3 hB3 => ?_)
        have := hQ M3 hE3
        rw [ez_some hlt (ls_one hlt hlo hone)] at this
        have := this hB3
        dsimp only at this
        rw [show n + 1 + (ez e f (shP 8 S' (lpP S' e p).2 (ltP S' e p))).2 = n + ((ez e f (shP 8 S' (lpP S' e p).2 (ltP S' e p))).2 + 1) by omega]
        exact this
  · rw [if_neg (by rw [c4]; decide)] at h
    refine g_iconst ((-1)) dX10_eases_7 ki_m1 ?_
    refine g_ireturn dX10_eases_8 rfl (by first | rfl | exact nar_bI _) ?_
    exact h M FrM.rf hM
theorem both_eases (k : Int32) : Both mF_eases mM_eases [.int k] := both_book (f_eases k) (fun M S Q => SF_eases k M S Q) (fun M S Q => SM_eases k M S Q) (fun S hW hH => by
  unfold f_eases
  split
  · exact (ez_OK hW hH).2.1
  · exact hH)
/-! disliked, heaviest, near, close -/
theorem sumN_bd {f : Nat → Nat} {c : Nat} : ∀ {n : Nat}, (∀ x, x < n → f x ≤ c) → sumN f n ≤ c * n
  | 0, _ => Nat.zero_le _
  | n + 1, h => by
    rw [sumN, Nat.mul_succ]
    have h1 := sumN_bd (n := n) (fun x hx => h x (by omega))
    have h2 := h n (by omega)
    omega
theorem dlv_le {S : BS} (hW : WF S) {q d : Nat} (hd : d < 24) : dlv S q d ≤ 9 := by
  have hw := hW.np
  unfold dlv
  split
  · exact hW.dl (by omega) hd
  · omega
theorem ho_np {S : BS} (hW : WF S) (hH : HM S) {d : Nat} (hd : d < S 1 0 0) (h8 : S 12 d 0 < 8) : S 12 d 0 < S 0 0 0 := by
  rcases Nat.lt_or_ge (S 12 d 0) (S 0 0 0) with z | z
  · exact z
  · have h1 := hH.here hd h8
    rw [hW.out z] at h1
    cases h1
theorem burN_le {S : BS} (hW : WF S) {p : Nat} (hp : p < 8) : burN S p ≤ 30000 := by
  have h : ∀ k, k < 4 → bw k * (S 5 p k + heldN S p k) ≤ 5 * 1023 := fun k hk => by
    have h1 := hW.ps hp hk
    have h2 := heldF_le S (fun d => S 12 d 0) p k
    have h3 := hW.nd
    have h4 : heldN S p k ≤ 24 := by unfold heldN; omega
    have h5 : bw k ≤ 5 := by
      match k, hk with
      | 0, _ => decide
      | 1, _ => decide
      | 2, _ => decide
      | 3, _ => decide
    exact Nat.mul_le_mul h5 (by omega)
  have := sumN_bd (n := 4) h
  unfold burN
  omega
def f_disliked (S : BS) : Int32 × BS := (nI (sumN (fun d => dlv S (S 12 d 0) d) (S 1 0 0)), S)
theorem SF_disliked (M : Mm) (S : BS) (Q : Po) (hB : BK M S) (hH : HM S) (h : ∀ M', FrC M M' → BK M' (f_disliked S).2 → Q M' (some (.int (f_disliked S).1))) : Call 60 mF_disliked [.ref 0] M Q := by
  have hw := hB.wf.nd
  have h2 := h M FrC.rf hB
  unfold f_disliked at h2
  refine Call_of (m := mF_disliked) [some (.ref 0), none, none] rfl (fun G => Nat.le_of_ble_eq_true rfl) (fun G => rfl) ?_
  refine g_iconst (nI 0) dX9_disliked_0 ki_0 ?_
  refine g_ist3_1 dX9_disliked_1 (by decide) rfl ?_
  refine g_iconst (nI 0) dX9_disliked_2 ki_0 ?_
  refine g_ist3_2 dX9_disliked_3 (by decide) rfl ?_
  refine loop_up (P := fun i => Go mF_disliked 60 Q 4 [some (.ref 0), some (.int (nI (sumN (fun d => dlv S (S 12 d 0) d) i))), some (.int (nI i))] [] M) (S 1 0 0) ?_ 0 (Nat.zero_le _)
  intro i hi ih
  refine g_iload_n dX9_disliked_4 rfl ?_
  refine g_aload_n dX9_disliked_5 rfl ?_
  refine g_getr (j := 0) dX9_disliked_6 gc9 rfl (by decide) rfl (by decide) fl_F_13 ?_
  refine g_geti (j := 1) dX9_disliked_9 gc0 rfl (by decide) rfl (by decide) fl_F_164 ?_
  try simp (disch := omega) only [hB.nd]
  refine g_icmp_ge_n 40 dX9_disliked_12 (by decide) (by omega) (by omega) (fun c12 => ?_) (fun c12 => ?_)
  · refine g_iload_n dX9_disliked_40 rfl ?_
    refine g_ireturn dX9_disliked_41 rfl (by first | rfl | exact nar_bI _) ?_
    rw [show i = S 1 0 0 by omega]; exact h2
  · have hd := hB.wf.dk (d := i) (by omega)
    have hs := sumN_bd (f := fun d => dlv S (S 12 d 0) d) (c := 9) (n := i) (fun x hx => dlv_le hB.wf (by omega))
    have hs2 := dlv_le hB.wf (q := S 12 i 0) (d := i) (by omega)
    refine g_iload_n dX9_disliked_15 rfl ?_
    refine g_aload_n dX9_disliked_16 rfl ?_
    refine g_getr (j := 0) dX9_disliked_17 gc9 rfl (by decide) rfl (by decide) fl_F_13 ?_
    refine g_aload_n dX9_disliked_20 rfl ?_
    refine g_getr (j := 0) dX9_disliked_21 gc9 rfl (by decide) rfl (by decide) fl_F_13 ?_
    refine g_iload_n dX9_disliked_24 rfl ?_
    refine g_call1 dX9_disliked_25 clB_holderOf ml_F_185 gc0 rfl rfl (by decide) (Nat.le_of_ble_eq_true rfl) ?_
    refine SB_holderOf hB (by omega) ?_
    refine g_iload_n dX9_disliked_28 rfl ?_
    refine g_call2 dX9_disliked_29 clB_dislikeOf ml_F_203 gc0 rfl rfl (by decide) (Nat.le_of_ble_eq_true rfl) ?_
    refine SB_dislikeOf hB hd.2.2 (by omega) ?_
    first | refine g_iadd_n dX9_disliked_32 ?_ | refine g_iadd dX9_disliked_32 ?_
    refine g_ist3_1 dX9_disliked_33 (by decide) rfl ?_
    first | refine g_incn3_2 dX9_disliked_34 ki_1 (by decide) rfl ?_ | refine g_incg3_2 (nI 1) dX9_disliked_34 ki_1 (by decide) rfl ?_
    refine g_goto 4 dX9_disliked_37 (by decide) ?_
    exact ih (by omega)
theorem SM_dislikeOf {d : Nat} {M : Mm} {S : BS} {Q : Po} (hM : MK (M 58) S) {p e : Nat} (hp : p < S 0 0 0) (he : e < S 1 0 0) (h : Q M (some (.int (nI (S 13 p e))))) : Call (d + 1) mM_dislikeOf [.ref 57, .int (nI p), .int (nI e)] M Q := by
  have hw := hM.wf.np
  have hw2 := hM.wf.nd
  refine Call_of (m := mM_dislikeOf) [some (.ref 57), some (.int (nI p)), some (.int (nI e))] rfl (fun G => Nat.le_of_ble_eq_true rfl) (fun G => rfl) ?_
  refine g_aload_n dX10_dislikeOf_0 rfl ?_
  refine g_getr (j := 0) dX10_dislikeOf_1 gc10 rfl (by decide) rfl (by decide) fl_M_9 ?_
  refine g_sipush (nI 323) dX10_dislikeOf_4 ks_323 ?_
  refine g_bipush (nI 24) dX10_dislikeOf_7 kb_24 ?_
  refine g_iload_n dX10_dislikeOf_9 rfl ?_
  first | refine g_imul_n dX10_dislikeOf_10 ?_ | refine g_imul dX10_dislikeOf_10 ?_
  first | refine g_iadd_n dX10_dislikeOf_11 ?_ | refine g_iadd dX10_dislikeOf_11 ?_
  refine g_iload_n dX10_dislikeOf_12 rfl ?_
  first | refine g_iadd_n dX10_dislikeOf_13 ?_ | refine g_iadd dX10_dislikeOf_13 ?_
  refine g_iald_n dX10_dislikeOf_14 (by first | rfl | assumption) (by first | decide | assumption) (by omega) (by omega) ?_
  try simp (disch := omega) only [hM.dl]
  refine g_ireturn dX10_dislikeOf_15 rfl (by first | rfl | exact nar_bI _) ?_
  exact h
theorem SM_disliked (M : Mm) (S : BS) (Q : Po) (hM : MK (M 58) S) (hC : MC M) (hH : HM S) (h : ∀ M', FrM M M' → MK (M' 58) (f_disliked S).2 → Q M' (some (.int (f_disliked S).1))) : Call 60 mM_disliked [.ref 57] M Q := by
  have hw := hM.wf.nd
  have hw2 := hM.wf.np
  have h2 := h M FrM.rf hM
  unfold f_disliked at h2
  refine Call_of (m := mM_disliked) [some (.ref 57), none, none] rfl (fun G => Nat.le_of_ble_eq_true rfl) (fun G => rfl) ?_
  refine g_iconst (nI 0) dX10_disliked_0 ki_0 ?_
  refine g_ist3_1 dX10_disliked_1 (by decide) rfl ?_
  refine g_iconst (nI 0) dX10_disliked_2 ki_0 ?_
  refine g_ist3_2 dX10_disliked_3 (by decide) rfl ?_
  refine loop_up (P := fun i => Go mM_disliked 60 Q 4 [some (.ref 57), some (.int (nI (sumN (fun d => dlv S (S 12 d 0) d) i))), some (.int (nI i))] [] M) (S 1 0 0) ?_ 0 (Nat.zero_le _)
  intro i hi ih
  refine g_iload_n dX10_disliked_4 rfl ?_
  refine g_aload_n dX10_disliked_5 rfl ?_
  refine g_getr (j := 0) dX10_disliked_6 gc10 rfl (by decide) rfl (by decide) fl_M_9 ?_
  refine g_iconst (nI 2) dX10_disliked_9 ki_2 ?_
  refine g_iald_n dX10_disliked_10 (by first | rfl | assumption) (by first | decide | assumption) (by omega) (by omega) ?_
  try simp (disch := omega) only [hM.nd]
  refine g_icmp_ge_n 45 dX10_disliked_11 (by decide) (by omega) (by omega) (fun c11 => ?_) (fun c11 => ?_)
  · refine g_iload_n dX10_disliked_45 rfl ?_
    refine g_ireturn dX10_disliked_46 rfl (by first | rfl | exact nar_bI _) ?_
    rw [show i = S 1 0 0 by omega]; exact h2
  · have hd := hM.wf.dk (d := i) (by omega)
    have hs := sumN_bd (f := fun d => dlv S (S 12 d 0) d) (c := 9) (n := i) (fun x hx => dlv_le hM.wf (by omega))
    have hs2 := dlv_le hM.wf (q := S 12 i 0) (d := i) (by omega)
    have ih := ih (by omega)
    rw [sumN] at ih
    refine g_iload_n dX10_disliked_14 rfl ?_
    refine g_aload_n dX10_disliked_15 rfl ?_
    refine g_iload_n dX10_disliked_16 rfl ?_
    refine g_call1 dX10_disliked_17 clM_holder ml_M_78 gc10 rfl rfl (by decide) (Nat.le_of_ble_eq_true rfl) ?_
    refine SM_holder hM (by omega) ?_
    refine g_if_lt 36 dX10_disliked_20 (by decide) (fun c20 => ?_) (fun c20 => ?_)
    · rw [hv_lt hd.2.2] at c20
      have e0 : dlv S (S 12 i 0) i = 0 := by unfold dlv; rw [if_neg (by omega)]
      rw [e0] at ih
      refine g_iconst (nI 0) dX10_disliked_36 ki_0 ?_
      first | refine g_iadd_n dX10_disliked_37 ?_ | refine g_iadd dX10_disliked_37 ?_
      refine g_ist3_1 dX10_disliked_38 (by decide) rfl ?_
      first | refine g_incn3_2 dX10_disliked_39 ki_1 (by decide) rfl ?_ | refine g_incg3_2 (nI 1) dX10_disliked_39 ki_1 (by decide) rfl ?_
      refine g_goto 4 dX10_disliked_42 (by decide) ?_
      exact ih
    · rw [hv_lt hd.2.2] at c20
      have hn := ho_np hM.wf hH (d := i) (by omega) (by omega)
      have e0 : dlv S (S 12 i 0) i = S 13 ((S 12 i 0)) i := by unfold dlv; rw [if_pos hn]
      rw [e0] at ih hs2
      refine g_aload_n dX10_disliked_23 rfl ?_
      refine g_aload_n dX10_disliked_24 rfl ?_
      refine g_iload_n dX10_disliked_25 rfl ?_
      refine g_call1 dX10_disliked_26 clM_holder ml_M_78 gc10 rfl rfl (by decide) (Nat.le_of_ble_eq_true rfl) ?_
      refine SM_holder hM (by omega) ?_
      rw [hv_p (p := S 12 i 0) (by omega)]
      refine g_iload_n dX10_disliked_29 rfl ?_
      refine g_call2 dX10_disliked_30 clM_dislikeOf ml_M_197 gc10 rfl rfl (by decide) (Nat.le_of_ble_eq_true rfl) ?_
      refine SM_dislikeOf hM hn (by omega) ?_
      refine g_goto 37 dX10_disliked_33 (by decide) ?_
      first | refine g_iadd_n dX10_disliked_37 ?_ | refine g_iadd dX10_disliked_37 ?_
      refine g_ist3_1 dX10_disliked_38 (by decide) rfl ?_
      first | refine g_incn3_2 dX10_disliked_39 ki_1 (by decide) rfl ?_ | refine g_incg3_2 (nI 1) dX10_disliked_39 ki_1 (by decide) rfl ?_
      refine g_goto 4 dX10_disliked_42 (by decide) ?_
      exact ih
theorem both_disliked : Both mF_disliked mM_disliked [] := both_book f_disliked (fun M S Q => SF_disliked M S Q) (fun M S Q => SM_disliked M S Q) (fun S hW hH => hH)
def hvP (S : BS) : Nat → Nat
  | 0 => 8
  | n + 1 => if hr S n = true ∧ (hvP S n = 8 ∨ burN S (hvP S n) < burN S n) then n else hvP S n
theorem hvP_lt (S : BS) : ∀ {n : Nat}, hvP S n = 8 ∨ hvP S n < n
  | 0 => Or.inl rfl
  | n + 1 => by
    rw [hvP]
    split
    · exact Or.inr (by omega)
    · rcases hvP_lt S (n := n) with h | h
      · exact Or.inl h
      · exact Or.inr (by omega)
def uv (a : Nat) : Int32 := if a = 8 then -5 else nI a
theorem uv_p {a : Nat} (h : a ≠ 8) : uv a = nI a := if_neg h
theorem uv_8 : uv 8 = -5 := rfl
theorem uv_lt {a : Nat} (h : a ≤ 8) : uv a < 0 ↔ a = 8 := by
  unfold uv
  by_cases e : a = 8
  · simp only [e, if_true, iff_true]; decide
  · rw [if_neg e]; exact ⟨fun h2 => absurd h2 (nI_pos (by omega)), fun h2 => absurd h2 e⟩
theorem uv_eq {a : Nat} (h : a ≤ 8) : uv a = -5 ↔ a = 8 := by
  refine ⟨fun h2 => (uv_lt h).mp (by rw [h2]; decide), fun h2 => by rw [h2]; rfl⟩
def f_heaviest (S : BS) : Int32 × BS := (uv (hvP S (S 0 0 0)), S)
theorem SF_heaviest (M : Mm) (S : BS) (Q : Po) (hB : BK M S) (hH : HM S) (h : ∀ M', FrC M M' → BK M' (f_heaviest S).2 → Q M' (some (.int (f_heaviest S).1))) : Call 60 mF_heaviest [.ref 0] M Q := by
  have hw := hB.wf.np
  have h2 := h M FrC.rf hB
  unfold f_heaviest at h2
  refine Call_of (m := mF_heaviest) [some (.ref 0), none, none] rfl (fun G => Nat.le_of_ble_eq_true rfl) (fun G => rfl) ?_
  refine g_bipush ((-5)) dX9_heaviest_0 kb_m5 ?_
  refine g_ist3_1 dX9_heaviest_2 (by decide) rfl ?_
  refine g_iconst (nI 0) dX9_heaviest_3 ki_0 ?_
  refine g_ist3_2 dX9_heaviest_4 (by decide) rfl ?_
  refine loop_up (P := fun i => Go mF_heaviest 60 Q 5 [some (.ref 0), some (.int (uv (hvP S i))), some (.int (nI i))] [] M) (S 0 0 0) ?_ 0 (Nat.zero_le _)
  intro i hi ih
  refine g_iload_n dX9_heaviest_5 rfl ?_
  refine g_aload_n dX9_heaviest_6 rfl ?_
  refine g_getr (j := 0) dX9_heaviest_7 gc9 rfl (by decide) rfl (by decide) fl_F_13 ?_
  refine g_geti (j := 0) dX9_heaviest_10 gc0 rfl (by decide) rfl (by decide) fl_F_83 ?_
  try simp (disch := omega) only [hB.np]
  refine g_icmp_ge_n 63 dX9_heaviest_13 (by decide) (by omega) (by omega) (fun c13 => ?_) (fun c13 => ?_)
  · refine g_iload_n dX9_heaviest_63 rfl ?_
    refine g_ireturn dX9_heaviest_64 rfl (by first | rfl | exact nar_bI _) ?_
    rw [show i = S 0 0 0 by omega]; exact h2
  · have hb := hvP_lt S (n := i)
    have ih := ih (by omega)
    rw [hvP] at ih
    refine g_aload_n dX9_heaviest_16 rfl ?_
    refine g_getr (j := 0) dX9_heaviest_17 gc9 rfl (by decide) rfl (by decide) fl_F_13 ?_
    refine g_iload_n dX9_heaviest_20 rfl ?_
    refine g_call1 dX9_heaviest_21 clB_isHere ml_F_95 gc0 rfl rfl (by decide) (Nat.le_of_ble_eq_true rfl) ?_
    refine SB_isHere hB (by omega) ?_
    refine g_if_ne_b 30 dX9_heaviest_24 (by decide) (fun c24 => ?_) (fun c24 => ?_)
    · refine g_iload_n dX9_heaviest_30 rfl ?_
      refine g_bipush ((-5)) dX9_heaviest_31 kb_m5 ?_
      refine g_icmp_eq 55 dX9_heaviest_33 (by decide) (fun c33 => ?_) (fun c33 => ?_)
      · rw [uv_eq (by omega)] at c33
        rw [if_pos ⟨c24, Or.inl c33⟩, uv_p (by omega)] at ih
        refine g_iload_n dX9_heaviest_55 rfl ?_
        refine g_ist3_1 dX9_heaviest_56 (by decide) rfl ?_
        first | refine g_incn3_2 dX9_heaviest_57 ki_1 (by decide) rfl ?_ | refine g_incg3_2 (nI 1) dX9_heaviest_57 ki_1 (by decide) rfl ?_
        refine g_goto 5 dX9_heaviest_60 (by decide) ?_
        exact ih
      · rw [uv_eq (by omega)] at c33
        have hlt : hvP S i < S 0 0 0 := by omega
        have b1 := burN_le hB.wf (p := i) (by omega)
        have b2 := burN_le hB.wf (p := hvP S i) (by omega)
        rw [uv_p c33]
        refine g_aload_n dX9_heaviest_36 rfl ?_
        refine g_getr (j := 0) dX9_heaviest_37 gc9 rfl (by decide) rfl (by decide) fl_F_13 ?_
        refine g_iload_n dX9_heaviest_40 rfl ?_
        refine g_call1 dX9_heaviest_41 clB_burdenOf ml_F_130 gc0 rfl rfl (by decide) (Nat.le_of_ble_eq_true rfl) ?_
        refine SB_burdenOf hB (by omega) ?_
        refine g_aload_n dX9_heaviest_44 rfl ?_
        refine g_getr (j := 0) dX9_heaviest_45 gc9 rfl (by decide) rfl (by decide) fl_F_13 ?_
        refine g_iload_n dX9_heaviest_48 rfl ?_
        refine g_call1 dX9_heaviest_49 clB_burdenOf ml_F_130 gc0 rfl rfl (by decide) (Nat.le_of_ble_eq_true rfl) ?_
        refine SB_burdenOf hB hlt ?_
        refine g_icmp_le_n 57 dX9_heaviest_52 (by decide) (by omega) (by omega) (fun c52 => ?_) (fun c52 => ?_)
        · rw [if_neg (fun z => by omega), uv_p c33] at ih
          first | refine g_incn3_2 dX9_heaviest_57 ki_1 (by decide) rfl ?_ | refine g_incg3_2 (nI 1) dX9_heaviest_57 ki_1 (by decide) rfl ?_
          refine g_goto 5 dX9_heaviest_60 (by decide) ?_
          exact ih
        · rw [if_pos ⟨c24, Or.inr (by omega)⟩, uv_p (by omega)] at ih
          refine g_iload_n dX9_heaviest_55 rfl ?_
          refine g_ist3_1 dX9_heaviest_56 (by decide) rfl ?_
          first | refine g_incn3_2 dX9_heaviest_57 ki_1 (by decide) rfl ?_ | refine g_incg3_2 (nI 1) dX9_heaviest_57 ki_1 (by decide) rfl ?_
          refine g_goto 5 dX9_heaviest_60 (by decide) ?_
          exact ih
    · rw [if_neg (fun z => by rw [z.1] at c24; cases c24)] at ih
      refine g_goto 57 dX9_heaviest_27 (by decide) ?_
      first | refine g_incn3_2 dX9_heaviest_57 ki_1 (by decide) rfl ?_ | refine g_incg3_2 (nI 1) dX9_heaviest_57 ki_1 (by decide) rfl ?_
      refine g_goto 5 dX9_heaviest_60 (by decide) ?_
      exact ih
theorem SM_heaviest (M : Mm) (S : BS) (Q : Po) (hM : MK (M 58) S) (hC : MC M) (hH : HM S) (h : ∀ M', FrM M M' → MK (M' 58) (f_heaviest S).2 → Q M' (some (.int (f_heaviest S).1))) : Call 60 mM_heaviest [.ref 57] M Q := by
  have hw := hM.wf.np
  have h2 := h M FrM.rf hM
  unfold f_heaviest at h2
  refine Call_of (m := mM_heaviest) [some (.ref 57), none, none] rfl (fun G => Nat.le_of_ble_eq_true rfl) (fun G => rfl) ?_
  refine g_bipush ((-5)) dX10_heaviest_0 kb_m5 ?_
  refine g_ist3_1 dX10_heaviest_2 (by decide) rfl ?_
  refine g_iconst (nI 0) dX10_heaviest_3 ki_0 ?_
  refine g_ist3_2 dX10_heaviest_4 (by decide) rfl ?_
  refine loop_up (P := fun i => Go mM_heaviest 60 Q 5 [some (.ref 57), some (.int (uv (hvP S i))), some (.int (nI i))] [] M) (S 0 0 0) ?_ 0 (Nat.zero_le _)
  intro i hi ih
  refine g_iload_n dX10_heaviest_5 rfl ?_
  refine g_aload_n dX10_heaviest_6 rfl ?_
  refine g_getr (j := 0) dX10_heaviest_7 gc10 rfl (by decide) rfl (by decide) fl_M_9 ?_
  refine g_iconst (nI 0) dX10_heaviest_10 ki_0 ?_
  refine g_iald_n dX10_heaviest_11 (by first | rfl | assumption) (by first | decide | assumption) (by omega) (by omega) ?_
  try simp (disch := omega) only [hM.np]
  refine g_icmp_ge_n 52 dX10_heaviest_12 (by decide) (by omega) (by omega) (fun c12 => ?_) (fun c12 => ?_)
  · refine g_iload_n dX10_heaviest_52 rfl ?_
    refine g_ireturn dX10_heaviest_53 rfl (by first | rfl | exact nar_bI _) ?_
    rw [show i = S 0 0 0 by omega]; exact h2
  · have hb := hvP_lt S (n := i)
    have ih := ih (by omega)
    rw [hvP] at ih
    refine g_aload_n dX10_heaviest_15 rfl ?_
    refine g_iload_n dX10_heaviest_16 rfl ?_
    refine g_call1 dX10_heaviest_17 clM_isHere ml_M_100 gc10 rfl rfl (by decide) (Nat.le_of_ble_eq_true rfl) ?_
    refine SM_isHere hM (by omega) ?_
    refine g_if_eq_b 44 dX10_heaviest_20 (by decide) (fun c20 => ?_) (fun c20 => ?_)
    · rw [if_neg (fun z => by rw [z.1] at c20; cases c20)] at ih
      refine g_iload_n dX10_heaviest_44 rfl ?_
      refine g_ist3_1 dX10_heaviest_45 (by decide) rfl ?_
      first | refine g_incn3_2 dX10_heaviest_46 ki_1 (by decide) rfl ?_ | refine g_incg3_2 (nI 1) dX10_heaviest_46 ki_1 (by decide) rfl ?_
      refine g_goto 5 dX10_heaviest_49 (by decide) ?_
      exact ih
    · refine g_iload_n dX10_heaviest_23 rfl ?_
      refine g_if_lt 40 dX10_heaviest_24 (by decide) (fun c24 => ?_) (fun c24 => ?_)
      · rw [uv_lt (by omega)] at c24
        rw [if_pos ⟨c20, Or.inl c24⟩, uv_p (by omega)] at ih
        refine g_iload_n dX10_heaviest_40 rfl ?_
        refine g_goto 45 dX10_heaviest_41 (by decide) ?_
        refine g_ist3_1 dX10_heaviest_45 (by decide) rfl ?_
        first | refine g_incn3_2 dX10_heaviest_46 ki_1 (by decide) rfl ?_ | refine g_incg3_2 (nI 1) dX10_heaviest_46 ki_1 (by decide) rfl ?_
        refine g_goto 5 dX10_heaviest_49 (by decide) ?_
        exact ih
      · rw [uv_lt (by omega)] at c24
        have hlt : hvP S i < S 0 0 0 := by omega
        have b1 := burN_le hM.wf (p := i) (by omega)
        have b2 := burN_le hM.wf (p := hvP S i) (by omega)
        rw [uv_p c24]
        refine g_aload_n dX10_heaviest_27 rfl ?_
        refine g_iload_n dX10_heaviest_28 rfl ?_
        refine g_call1 dX10_heaviest_29 clM_burden ml_M_122 gc10 rfl rfl (by decide) (Nat.le_of_ble_eq_true rfl) ?_
        refine SM_burden hM hC (by omega) ?_
        refine g_aload_n dX10_heaviest_32 rfl ?_
        refine g_iload_n dX10_heaviest_33 rfl ?_
        refine g_call1 dX10_heaviest_34 clM_burden ml_M_122 gc10 rfl rfl (by decide) (Nat.le_of_ble_eq_true rfl) ?_
        refine SM_burden hM hC hlt ?_
        refine g_icmp_le_n 44 dX10_heaviest_37 (by decide) (by omega) (by omega) (fun c37 => ?_) (fun c37 => ?_)
        · rw [if_neg (fun z => by omega), uv_p c24] at ih
          refine g_iload_n dX10_heaviest_44 rfl ?_
          refine g_ist3_1 dX10_heaviest_45 (by decide) rfl ?_
          first | refine g_incn3_2 dX10_heaviest_46 ki_1 (by decide) rfl ?_ | refine g_incg3_2 (nI 1) dX10_heaviest_46 ki_1 (by decide) rfl ?_
          refine g_goto 5 dX10_heaviest_49 (by decide) ?_
          exact ih
        · rw [if_pos ⟨c20, Or.inr (by omega)⟩, uv_p (by omega)] at ih
          refine g_iload_n dX10_heaviest_40 rfl ?_
          refine g_goto 45 dX10_heaviest_41 (by decide) ?_
          refine g_ist3_1 dX10_heaviest_45 (by decide) rfl ?_
          first | refine g_incn3_2 dX10_heaviest_46 ki_1 (by decide) rfl ?_ | refine g_incg3_2 (nI 1) dX10_heaviest_46 ki_1 (by decide) rfl ?_
          refine g_goto 5 dX10_heaviest_49 (by decide) ?_
          exact ih
theorem both_heaviest : Both mF_heaviest mM_heaviest [] := both_book f_heaviest (fun M S Q => SF_heaviest M S Q) (fun M S Q => SM_heaviest M S Q) (fun S hW hH => hH)
/-! near, close -/
def nrN (S : BS) (d n : Nat) : Nat := cnt (fun e => decide (d < e) && closeB S d e) n
theorem nrN_0 (S : BS) (d : Nat) : ∀ {n : Nat}, n ≤ d + 1 → nrN S d n = 0
  | 0, _ => rfl
  | n + 1, h => by
    unfold nrN
    rw [cnt_f (by rw [decide_eq_false (by omega)]; rfl)]
    exact nrN_0 S d (by omega)
theorem nrN_t {S : BS} {d e : Nat} (h : d < e) (hc : closeB S d e = true) : nrN S d (e + 1) = nrN S d e + 1 := cnt_t (by rw [decide_eq_true h, hc]; rfl)
theorem nrN_f {S : BS} {d e : Nat} (hc : closeB S d e = false) : nrN S d (e + 1) = nrN S d e := cnt_f (by rw [hc, Bool.and_false])
theorem nrN_le (S : BS) (d n : Nat) : nrN S d n ≤ n := cnt_le _ _
def f_near (S : BS) : Int32 × BS := (nI (sumN (fun d => nrN S d (S 1 0 0)) (S 1 0 0)), S)
theorem SF_near (M : Mm) (S : BS) (Q : Po) (hB : BK M S) (hH : HM S) (h : ∀ M', FrC M M' → BK M' (f_near S).2 → Q M' (some (.int (f_near S).1))) : Call 60 mF_near [.ref 0] M Q := by
  have hw := hB.wf.nd
  have h2 := h M FrC.rf hB
  unfold f_near at h2
  refine Call_of (m := mF_near) [some (.ref 0), none, none, none] rfl (fun G => Nat.le_of_ble_eq_true rfl) (fun G => rfl) ?_
  refine g_iconst (nI 0) dX9_near_0 ki_0 ?_
  refine g_ist4_1 dX9_near_1 (by decide) rfl ?_
  refine g_iconst (nI 0) dX9_near_2 ki_0 ?_
  refine g_ist4_2 dX9_near_3 (by decide) rfl ?_
  refine loop_up (P := fun i => Go mF_near 60 Q 4 [some (.ref 0), some (.int (nI (sumN (fun d => nrN S d (S 1 0 0)) i))), some (.int (nI i)), none] [] M) (S 1 0 0) ?_ 0 (Nat.zero_le _)
  intro i hi ih
  refine g_iload_n dX9_near_4 rfl ?_
  refine g_aload_n dX9_near_5 rfl ?_
  refine g_getr (j := 0) dX9_near_6 gc9 rfl (by decide) rfl (by decide) fl_F_13 ?_
  refine g_geti (j := 1) dX9_near_9 gc0 rfl (by decide) rfl (by decide) fl_F_164 ?_
  try simp (disch := omega) only [hB.nd]
  refine g_icmp_ge_n 57 dX9_near_12 (by decide) (by omega) (by omega) (fun c12 => ?_) (fun c12 => ?_)
  · refine g_iload_n dX9_near_57 rfl ?_
    refine g_ireturn dX9_near_58 rfl (by first | rfl | exact nar_bI _) ?_
    rw [show i = S 1 0 0 by omega]; exact h2
  · have hs := sumN_bd (f := fun d => nrN S d (S 1 0 0)) (c := 24) (n := i) (fun x hx => Nat.le_trans (nrN_le S x _) hw)
    have ih := ih (by omega)
    rw [sumN] at ih
    refine g_iload_n dX9_near_15 rfl ?_
    refine g_iconst (nI 1) dX9_near_16 ki_1 ?_
    first | refine g_iadd_n dX9_near_17 ?_ | refine g_iadd dX9_near_17 ?_
    refine g_ist4_3 dX9_near_18 (by decide) rfl ?_
    suffices hin : ∀ j, j ≤ S 1 0 0 → i + 1 ≤ j → Go mF_near 60 Q 19 [some (.ref 0), some (.int (nI (sumN (fun d => nrN S d (S 1 0 0)) i + nrN S i j))), some (.int (nI i)), some (.int (nI j))] [] M by
      have := hin (i + 1) (by omega) (Nat.le_refl _)
      rw [nrN_0 S i (Nat.le_refl (i + 1)), Nat.add_zero] at this
      exact this
    refine loop_up (P := fun j => i + 1 ≤ j → Go mF_near 60 Q 19 [some (.ref 0), some (.int (nI (sumN (fun d => nrN S d (S 1 0 0)) i + nrN S i j))), some (.int (nI i)), some (.int (nI j))] [] M) (S 1 0 0) ?_
    intro j hj jh hij
    have hs2 := nrN_le S i j
    refine g_iload_n dX9_near_19 rfl ?_
    refine g_aload_n dX9_near_20 rfl ?_
    refine g_getr (j := 0) dX9_near_21 gc9 rfl (by decide) rfl (by decide) fl_F_13 ?_
    refine g_geti (j := 1) dX9_near_24 gc0 rfl (by decide) rfl (by decide) fl_F_164 ?_
    try simp (disch := omega) only [hB.nd]
    refine g_icmp_ge_n 51 dX9_near_27 (by decide) (by omega) (by omega) (fun c27 => ?_) (fun c27 => ?_)
    · first | refine g_incn4_2 dX9_near_51 ki_1 (by decide) rfl ?_ | refine g_incg4_2 (nI 1) dX9_near_51 ki_1 (by decide) rfl ?_
      refine g_goto 4 dX9_near_54 (by decide) ?_
      refine Go_sub [some (.ref 0), some (.int (nI (sumN (fun d => nrN S d (S 1 0 0)) i + nrN S i j))), some (.int (nI (i + 1))), none] (by simp [subL]) ?_
      rw [show j = S 1 0 0 by omega]
      exact ih
    · have jh := jh (by omega) (by omega)
      refine g_aload_n dX9_near_30 rfl ?_
      refine g_getr (j := 0) dX9_near_31 gc9 rfl (by decide) rfl (by decide) fl_F_13 ?_
      refine g_iload_n dX9_near_34 rfl ?_
      refine g_iload_n dX9_near_35 rfl ?_
      refine g_call2 dX9_near_36 clB_areClose ml_F_265 gc0 rfl rfl (by decide) (Nat.le_of_ble_eq_true rfl) ?_
      refine SB_areClose hB (by omega) (by omega) ?_
      refine g_if_eq_b 45 dX9_near_39 (by decide) (fun c39 => ?_) (fun c39 => ?_)
      · rw [nrN_f c39] at jh
        first | refine g_incn4_3 dX9_near_45 ki_1 (by decide) rfl ?_ | refine g_incg4_3 (nI 1) dX9_near_45 ki_1 (by decide) rfl ?_
        refine g_goto 19 dX9_near_48 (by decide) ?_
        exact jh
      · rw [nrN_t (by omega) c39] at jh
        first | refine g_incn4_1 dX9_near_42 ki_1 (by decide) rfl ?_ | refine g_incg4_1 (nI 1) dX9_near_42 ki_1 (by decide) rfl ?_
        first | refine g_incn4_3 dX9_near_45 ki_1 (by decide) rfl ?_ | refine g_incg4_3 (nI 1) dX9_near_45 ki_1 (by decide) rfl ?_
        refine g_goto 19 dX9_near_48 (by decide) ?_
        exact jh
theorem SM_near (M : Mm) (S : BS) (Q : Po) (hM : MK (M 58) S) (hC : MC M) (hH : HM S) (h : ∀ M', FrM M M' → MK (M' 58) (f_near S).2 → Q M' (some (.int (f_near S).1))) : Call 60 mM_near [.ref 57] M Q := by
  have hw := hM.wf.nd
  have h2 := h M FrM.rf hM
  unfold f_near at h2
  refine Call_of (m := mM_near) [some (.ref 57), none, none, none] rfl (fun G => Nat.le_of_ble_eq_true rfl) (fun G => rfl) ?_
  refine g_iconst (nI 0) dX10_near_0 ki_0 ?_
  refine g_ist4_1 dX10_near_1 (by decide) rfl ?_
  refine g_iconst (nI 0) dX10_near_2 ki_0 ?_
  refine g_ist4_2 dX10_near_3 (by decide) rfl ?_
  refine loop_up (P := fun i => Go mM_near 60 Q 4 [some (.ref 57), some (.int (nI (sumN (fun d => nrN S d (S 1 0 0)) i))), some (.int (nI i)), none] [] M) (S 1 0 0) ?_ 0 (Nat.zero_le _)
  intro i hi ih
  refine g_iload_n dX10_near_4 rfl ?_
  refine g_aload_n dX10_near_5 rfl ?_
  refine g_getr (j := 0) dX10_near_6 gc10 rfl (by decide) rfl (by decide) fl_M_9 ?_
  refine g_iconst (nI 2) dX10_near_9 ki_2 ?_
  refine g_iald_n dX10_near_10 (by first | rfl | assumption) (by first | decide | assumption) (by omega) (by omega) ?_
  try simp (disch := omega) only [hM.nd, hM.dy]
  refine g_icmp_ge_n 97 dX10_near_11 (by decide) (by omega) (by omega) (fun c11 => ?_) (fun c11 => ?_)
  · refine g_iload_n dX10_near_97 rfl ?_
    refine g_ireturn dX10_near_98 rfl (by first | rfl | exact nar_bI _) ?_
    rw [show i = S 1 0 0 by omega]; exact h2
  · have hs := sumN_bd (f := fun d => nrN S d (S 1 0 0)) (c := 24) (n := i) (fun x hx => Nat.le_trans (nrN_le S x _) hw)
    have ih := ih (by omega)
    rw [sumN] at ih
    refine g_iload_n dX10_near_14 rfl ?_
    refine g_iconst (nI 1) dX10_near_15 ki_1 ?_
    first | refine g_iadd_n dX10_near_16 ?_ | refine g_iadd dX10_near_16 ?_
    refine g_ist4_3 dX10_near_17 (by decide) rfl ?_
    suffices hin : ∀ j, j ≤ S 1 0 0 → i + 1 ≤ j → Go mM_near 60 Q 18 [some (.ref 57), some (.int (nI (sumN (fun d => nrN S d (S 1 0 0)) i + nrN S i j))), some (.int (nI i)), some (.int (nI j))] [] M by
      have := hin (i + 1) (by omega) (Nat.le_refl _)
      rw [nrN_0 S i (Nat.le_refl (i + 1)), Nat.add_zero] at this
      exact this
    refine loop_up (P := fun j => i + 1 ≤ j → Go mM_near 60 Q 18 [some (.ref 57), some (.int (nI (sumN (fun d => nrN S d (S 1 0 0)) i + nrN S i j))), some (.int (nI i)), some (.int (nI j))] [] M) (S 1 0 0) ?_
    intro j hj jh hij
    have hs2 := nrN_le S i j
    refine g_iload_n dX10_near_18 rfl ?_
    refine g_aload_n dX10_near_19 rfl ?_
    refine g_getr (j := 0) dX10_near_20 gc10 rfl (by decide) rfl (by decide) fl_M_9 ?_
    refine g_iconst (nI 2) dX10_near_23 ki_2 ?_
    refine g_iald_n dX10_near_24 (by first | rfl | assumption) (by first | decide | assumption) (by omega) (by omega) ?_
    try simp (disch := omega) only [hM.nd, hM.dy]
    refine g_icmp_ge_n 91 dX10_near_25 (by decide) (by omega) (by omega) (fun c25 => ?_) (fun c25 => ?_)
    · first | refine g_incn4_2 dX10_near_91 ki_1 (by decide) rfl ?_ | refine g_incg4_2 (nI 1) dX10_near_91 ki_1 (by decide) rfl ?_
      refine g_goto 4 dX10_near_94 (by decide) ?_
      refine Go_sub [some (.ref 57), some (.int (nI (sumN (fun d => nrN S d (S 1 0 0)) i + nrN S i j))), some (.int (nI (i + 1))), none] (by simp [subL]) ?_
      rw [show j = S 1 0 0 by omega]
      exact ih
    · have jh := jh (by omega) (by omega)
      have d1 := hM.wf.dk (d := i) (by omega)
      have d2 := hM.wf.dk (d := j) (by omega)
      have hno : closeB S i j = false → Go mM_near 60 Q 18 [some (.ref 57), some (.int (nI (sumN (fun d => nrN S d (S 1 0 0)) i + nrN S i j + 0))), some (.int (nI i)), some (.int (nI (j + 1)))] [] M := fun hc => by
        rw [nrN_f hc] at jh
        exact jh
      clear ih h2 h
      refine g_iload_n dX10_near_28 rfl ?_
      refine g_aload_n dX10_near_29 rfl ?_
      refine g_iload_n dX10_near_30 rfl ?_
      refine g_call1 dX10_near_31 clM_holder ml_M_78 gc10 rfl rfl (by decide) (Nat.le_of_ble_eq_true rfl) ?_
      refine SM_holder hM (by omega) ?_
      refine g_if_lt 82 dX10_near_34 (by decide) (fun c34 => ?_) (fun c34 => ?_)
      · rw [hv_lt d1.2.2] at c34
        refine g_iconst (nI 0) dX10_near_82 ki_0 ?_
        first | refine g_iadd_n dX10_near_83 ?_ | refine g_iadd dX10_near_83 ?_
        refine g_ist4_1 dX10_near_84 (by decide) rfl ?_
        first | refine g_incn4_3 dX10_near_85 ki_1 (by decide) rfl ?_ | refine g_incg4_3 (nI 1) dX10_near_85 ki_1 (by decide) rfl ?_
        refine g_goto 18 dX10_near_88 (by decide) ?_
        exact hno (decide_eq_false (fun q => q.1 c34))
      · rw [hv_lt d1.2.2] at c34
        refine g_aload_n dX10_near_37 rfl ?_
        refine g_iload_n dX10_near_38 rfl ?_
        refine g_call1 dX10_near_39 clM_holder ml_M_78 gc10 rfl rfl (by decide) (Nat.le_of_ble_eq_true rfl) ?_
        refine SM_holder hM (by omega) ?_
        refine g_aload_n dX10_near_42 rfl ?_
        refine g_iload_n dX10_near_43 rfl ?_
        refine g_call1 dX10_near_44 clM_holder ml_M_78 gc10 rfl rfl (by decide) (Nat.le_of_ble_eq_true rfl) ?_
        refine SM_holder hM (by omega) ?_
        refine g_icmp_ne 82 dX10_near_47 (by decide) (fun c47 => ?_) (fun c47 => ?_)
        · rw [hv_inj d1.2.2 d2.2.2] at c47
          refine g_iconst (nI 0) dX10_near_82 ki_0 ?_
          first | refine g_iadd_n dX10_near_83 ?_ | refine g_iadd dX10_near_83 ?_
          refine g_ist4_1 dX10_near_84 (by decide) rfl ?_
          first | refine g_incn4_3 dX10_near_85 ki_1 (by decide) rfl ?_ | refine g_incg4_3 (nI 1) dX10_near_85 ki_1 (by decide) rfl ?_
          refine g_goto 18 dX10_near_88 (by decide) ?_
          exact hno (decide_eq_false (fun q => c47 q.2.1))
        · rw [hv_inj d1.2.2 d2.2.2] at c47
          refine g_aload_n dX10_near_50 rfl ?_
          refine g_getr (j := 0) dX10_near_51 gc10 rfl (by decide) rfl (by decide) fl_M_9 ?_
          refine g_sipush (nI 251) dX10_near_54 ks_251 ?_
          refine g_iload_n dX10_near_57 rfl ?_
          first | refine g_iadd_n dX10_near_58 ?_ | refine g_iadd dX10_near_58 ?_
          refine g_iald_n dX10_near_59 (by first | rfl | assumption) (by first | decide | assumption) (by omega) (by omega) ?_
          try simp (disch := omega) only [hM.nd, hM.dy]
          refine g_aload_n dX10_near_60 rfl ?_
          refine g_getr (j := 0) dX10_near_61 gc10 rfl (by decide) rfl (by decide) fl_M_9 ?_
          refine g_sipush (nI 251) dX10_near_64 ks_251 ?_
          refine g_iload_n dX10_near_67 rfl ?_
          first | refine g_iadd_n dX10_near_68 ?_ | refine g_iadd dX10_near_68 ?_
          refine g_iald_n dX10_near_69 (by first | rfl | assumption) (by first | decide | assumption) (by omega) (by omega) ?_
          try simp (disch := omega) only [hM.nd, hM.dy]
          first | refine g_isub_n dX10_near_70 (by omega) ?_ | refine g_isub dX10_near_70 ?_
          refine g_mabs dX10_near_71 mm_M_240 ms_abs ti_java_lang_Math mc_abs (Nat.le_of_ble_eq_true rfl) ?_
          rw [nI_abs (by omega) (by omega)]
          have hle : (if S 10 j 0 ≤ S 10 i 0 then S 10 i 0 - S 10 j 0 else S 10 j 0 - S 10 i 0) ≤ 365 := by split <;> omega
          refine g_iconst (nI 2) dX10_near_74 ki_2 ?_
          refine g_icmp_ge_n 82 dX10_near_75 (by decide) (by omega) (by omega) (fun c75 => ?_) (fun c75 => ?_)
          · refine g_iconst (nI 0) dX10_near_82 ki_0 ?_
            first | refine g_iadd_n dX10_near_83 ?_ | refine g_iadd dX10_near_83 ?_
            refine g_ist4_1 dX10_near_84 (by decide) rfl ?_
            first | refine g_incn4_3 dX10_near_85 ki_1 (by decide) rfl ?_ | refine g_incg4_3 (nI 1) dX10_near_85 ki_1 (by decide) rfl ?_
            refine g_goto 18 dX10_near_88 (by decide) ?_
            exact hno (decide_eq_false (fun q => by have := q.2.2; omega))
          · rw [nrN_t (by omega) (decide_eq_true ⟨c34, c47, by omega⟩)] at jh
            refine g_iconst (nI 1) dX10_near_78 ki_1 ?_
            refine g_goto 83 dX10_near_79 (by decide) ?_
            first | refine g_iadd_n dX10_near_83 ?_ | refine g_iadd dX10_near_83 ?_
            refine g_ist4_1 dX10_near_84 (by decide) rfl ?_
            first | refine g_incn4_3 dX10_near_85 ki_1 (by decide) rfl ?_ | refine g_incg4_3 (nI 1) dX10_near_85 ki_1 (by decide) rfl ?_
            refine g_goto 18 dX10_near_88 (by decide) ?_
            exact jh
theorem both_near : Both mF_near mM_near [] := both_book f_near (fun M S Q => SF_near M S Q) (fun M S Q => SM_near M S Q) (fun S hW hH => hH)
/-! close -/
theorem sum_kinds (a b : Nat → Nat) (q : Nat) : ∀ {n : Nat}, (∀ d, d < n → a d < 4) → sumN (fun k => cnt (fun d => a d == k && b d == q) n) 4 = cnt (fun d => b d == q) n
  | 0, _ => rfl
  | n + 1, h => by
    have ih := sum_kinds a b q (n := n) (fun d hd => h d (by omega))
    have h4 := h n (by omega)
    have e1 : sumN (fun k => cnt (fun d => a d == k && b d == q) (n + 1)) 4 = sumN (fun k => cnt (fun d => a d == k && b d == q) n) 4 + sumN (fun k => if (a n == k && b n == q) = true then 1 else 0) 4 := by
      rw [← sumN_add]
      rfl
    rw [e1, ih, cnt]
    congr 1
    have h5 : a n = 0 ∨ a n = 1 ∨ a n = 2 ∨ a n = 3 := by omega
    by_cases e : (b n == q) = true
    · rcases h5 with z | z | z | z <;> simp [sumN, z, e]
    · rcases h5 with z | z | z | z <;> simp [sumN, z, e]
theorem heldAll_8 {S : BS} (hW : WF S) (q : Nat) : heldAll S q = cnt (fun d => S 12 d 0 == q) (S 1 0 0) := by
  have hw := hW.nd
  exact sum_kinds (fun d => S 11 d 0) (fun d => S 12 d 0) q (fun d hd => by have := hW.dk (d := d) (by omega); omega)
theorem cloS_wf {S : BS} (hW : WF S) : WF (cloS S) := by
  have o : ∀ {a b c : Nat}, a ≠ 1 → a ≠ 2 → a ≠ 5 → a ≠ 13 → cloS S a b c = S a b c := fun h1 h2 h5 h13 => by
    unfold cloS; rw [if_neg h1, if_neg h2, if_neg (fun q => h5 q.1), if_neg h13]
  have o1 : cloS S 1 0 0 = 0 := rfl
  have o5 : ∀ p k, p < S 0 0 0 → k < 4 → cloS S 5 p k = min (S 5 p k + heldN S p k) 999 := fun p k hp hk => by
    unfold cloS; rw [if_neg (by decide), if_neg (by decide), if_pos ⟨rfl, hp, hk⟩]
  have o13 : ∀ p d, cloS S 13 p d = 0 := fun p d => by
    unfold cloS; rw [if_neg (by decide), if_neg (by decide), if_neg (fun q => absurd q.1 (by decide)), if_pos rfl]
  have o0 : cloS S 0 0 0 = S 0 0 0 := o (by decide) (by decide) (by decide) (by decide)
  refine ⟨?_, ?_, fun p hp => ?_, fun p hp => ?_, fun p hp => ?_, fun p k hp hk => ?_, fun p hp => ?_, fun p q hp hq => ?_, fun e he => ?_, fun p d hp hd => ?_, fun p d hd => ?_⟩
  · rw [o0]; exact hW.np
  · rw [o1]; omega
  · rw [o (by decide) (by decide) (by decide) (by decide)]; exact hW.hN hp
  · rw [o0] at hp; rw [o (by decide) (by decide) (by decide) (by decide)]; exact hW.out hp
  · rw [o (by decide) (by decide) (by decide) (by decide)]; exact hW.rk hp
  · rcases Nat.lt_or_ge p (S 0 0 0) with z | z
    · rw [o5 p k z hk]; exact Nat.min_le_right _ _
    · have : cloS S 5 p k = S 5 p k := by
        unfold cloS; rw [if_neg (by decide), if_neg (by decide), if_neg (by omega), if_neg (by decide)]
      rw [this]; exact hW.ps hp hk
  · rw [o (by decide) (by decide) (by decide) (by decide)]; exact hW.nr hp
  · rw [o (a := 7) (by decide) (by decide) (by decide) (by decide), o (a := 8) (by decide) (by decide) (by decide) (by decide), o (a := 9) (by decide) (by decide) (by decide) (by decide)]; exact hW.rl hp hq
  · rw [o (a := 10) (by decide) (by decide) (by decide) (by decide), o (a := 11) (by decide) (by decide) (by decide) (by decide), o (a := 12) (by decide) (by decide) (by decide) (by decide)]; exact hW.dk he
  · rw [o13]; omega
  · rw [o13]
theorem MKclose {w w' : Nat → Int32} {S : BS} (hM : MK w (cloI S (S 0 0 0) 0)) (hW : WF S) (h1 : w' 1 = nI (S 2 0 0 + 1)) (h2 : w' 2 = nI 0) (hk : ∀ j, j ≠ 1 → j ≠ 2 → w' j = w j) (hq0 : 0 < S 1 0 0 → S 12 0 0 < 8 → S 12 0 0 < S 0 0 0) : MK w' (cloS S) := by
  have o : ∀ {a b c : Nat}, a ≠ 1 → a ≠ 2 → a ≠ 5 → a ≠ 13 → cloS S a b c = S a b c := fun h1 h2 h5 h13 => by
    unfold cloS; rw [if_neg h1, if_neg h2, if_neg (fun q => h5 q.1), if_neg h13]
  have o1 : cloS S 1 0 0 = 0 := rfl
  have o2 : cloS S 2 0 0 = S 2 0 0 + 1 := rfl
  have o5 : ∀ p k, p < S 0 0 0 → k < 4 → cloS S 5 p k = min (S 5 p k + heldN S p k) 999 := fun p k hp hk => by
    unfold cloS; rw [if_neg (by decide), if_neg (by decide), if_pos ⟨rfl, hp, hk⟩]
  have o0 : cloS S 0 0 0 = S 0 0 0 := o (by decide) (by decide) (by decide) (by decide)
  have i0 : ∀ a b c, a ≠ 5 → cloI S (S 0 0 0) 0 a b c = S a b c := fun a b c ha => by rw [cloI_oth ha]
  have e0 := i0 0 0 0 (by decide)
  have hw := hW.np
  refine ⟨cloS_wf hW, ?_, ?_, ?_, fun p hp => ?_, fun p k hp hk4 => ?_, fun p q hp hq => ?_, fun e he => ?_, fun p e hp he => ?_, ?_⟩
  · rw [o0, hk 0 (by decide) (by decide), hM.np, e0]
  · rw [o2]; exact h1
  · rw [o1]; exact h2
  · rw [o0] at hp
    rw [o (a := 4) (by decide) (by decide) (by decide) (by decide), o (a := 3) (by decide) (by decide) (by decide) (by decide), o (a := 6) (by decide) (by decide) (by decide) (by decide), hk (3 + p) (by omega) (by omega), hk (11 + p) (by omega) (by omega), hk (51 + p) (by omega) (by omega)]
    have x1 := hM.hN (p := p) (by rw [e0]; exact hp)
    have x2 := hM.rk (p := p) (by rw [e0]; exact hp)
    have x3 := hM.nr (p := p) (by rw [e0]; exact hp)
    rw [i0 4 p 0 (by decide)] at x1
    rw [i0 3 p 0 (by decide)] at x2
    rw [i0 6 p 0 (by decide)] at x3
    exact ⟨x1, x2, x3⟩
  · rw [o0] at hp
    rw [o5 p k hp hk4, hk (19 + 4 * p + k) (by omega) (by omega), hM.ps (by rw [e0]; exact hp) hk4]
    unfold cloI
    rw [if_pos ⟨rfl, hk4, Or.inl hp⟩]
  · rw [o0] at hp
    rw [o (a := 6) (by decide) (by decide) (by decide) (by decide)] at hq
    have y1 : p < cloI S (S 0 0 0) 0 0 0 0 := by rw [e0]; exact hp
    have y2 : q < cloI S (S 0 0 0) 0 6 p 0 := by rw [i0 6 p 0 (by decide)]; exact hq
    have x1 := hM.rs y1 y2
    have x2 := hM.ra y1 y2
    have x3 := hM.rb y1 y2
    rw [i0 7 p q (by decide)] at x1 x3
    rw [i0 8 p q (by decide)] at x2
    rw [i0 9 p q (by decide)] at x3
    rw [o (a := 7) (by decide) (by decide) (by decide) (by decide), o (a := 8) (by decide) (by decide) (by decide) (by decide), o (a := 9) (by decide) (by decide) (by decide) (by decide), hk (59 + 24 * p + 3 * q) (by omega) (by omega), hk (59 + 24 * p + 3 * q + 1) (by omega) (by omega), hk (59 + 24 * p + 3 * q + 2) (by omega) (by omega)]
    exact ⟨x1, x2, x3⟩
  · rw [o1] at he; omega
  · rw [o1] at he; omega
  · rw [o1]
    intro _
    have en : cloI S (S 0 0 0) 0 1 0 0 = S 1 0 0 := i0 1 0 0 (by decide)
    rcases Nat.eq_zero_or_pos (S 1 0 0) with z | z
    · obtain ⟨xa, xk, xq, xx, y1, y2, y3, y4, y5, y6, y7, y8⟩ := hM.mx (by rw [en]; exact z)
      refine ⟨xa, xk, xq, xx, y1, y2, y3, y4, ?_, ?_, ?_, fun hq => ?_⟩
      · rw [hk 251 (by omega) (by omega)]; exact y5
      · rw [hk 275 (by omega) (by omega)]; exact y6
      · rw [hk 299 (by omega) (by omega)]; exact y7
      · rw [hk _ (by omega) (by omega)]; exact y8 hq
    · have hdk := hW.dk (d := 0) (by omega)
      have x1 := hM.dy (d := 0) (by rw [en]; exact z)
      have x2 := hM.kd (d := 0) (by rw [en]; exact z)
      have x3 := hM.ho (d := 0) (by rw [en]; exact z)
      rw [i0 10 0 0 (by decide)] at x1
      rw [i0 11 0 0 (by decide)] at x2
      rw [i0 12 0 0 (by decide)] at x3
      by_cases h8 : S 12 0 0 < 8
      · have hp := hq0 z h8
        have x4 := hM.dl (p := S 12 0 0) (d := 0) (by rw [e0]; exact hp) (by rw [en]; exact z)
        rw [i0 13 _ 0 (by decide)] at x4
        refine ⟨S 10 0 0, S 11 0 0, S 12 0 0, S 13 (S 12 0 0) 0, hdk.1, hdk.2.1, hdk.2.2, hW.dl (by omega) (by omega), ?_, ?_, ?_, fun hq => ?_⟩
        · rw [hk 251 (by omega) (by omega)]; exact x1
        · rw [hk 275 (by omega) (by omega)]; exact x2
        · rw [hk 299 (by omega) (by omega)]; exact x3
        · rw [hk _ (by omega) (by omega)]; exact x4
      · refine ⟨S 10 0 0, S 11 0 0, S 12 0 0, 0, hdk.1, hdk.2.1, hdk.2.2, by omega, ?_, ?_, ?_, fun hq => absurd hq h8⟩
        · rw [hk 251 (by omega) (by omega)]; exact x1
        · rw [hk 275 (by omega) (by omega)]; exact x2
        · rw [hk 299 (by omega) (by omega)]; exact x3
theorem SM_openMany {d : Nat} {M : Mm} {S : BS} {Q : Po} (hM : MK (M 58) S) (h : Q M (some (.int (nI (heldAll S 8))))) : Call (d + 2) mM_openMany [.ref 57] M Q := by
  have hw := hM.wf.nd
  rw [heldAll_8 hM.wf] at h
  refine Call_of (m := mM_openMany) [some (.ref 57), none, none] rfl (fun G => Nat.le_of_ble_eq_true rfl) (fun G => rfl) ?_
  refine g_iconst (nI 0) dX10_openMany_0 ki_0 ?_
  refine g_ist3_1 dX10_openMany_1 (by decide) rfl ?_
  refine g_iconst (nI 0) dX10_openMany_2 ki_0 ?_
  refine g_ist3_2 dX10_openMany_3 (by decide) rfl ?_
  refine loop_up (P := fun i => Go mM_openMany (d + 2) Q 4 [some (.ref 57), some (.int (nI (cnt (fun d => S 12 d 0 == 8) i))), some (.int (nI i))] [] M) (S 1 0 0) ?_ 0 (Nat.zero_le _)
  intro i hi ih
  refine g_iload_n dX10_openMany_4 rfl ?_
  refine g_aload_n dX10_openMany_5 rfl ?_
  refine g_getr (j := 0) dX10_openMany_6 gc10 rfl (by decide) rfl (by decide) fl_M_9 ?_
  refine g_iconst (nI 2) dX10_openMany_9 ki_2 ?_
  refine g_iald_n dX10_openMany_10 (by first | rfl | assumption) (by first | decide | assumption) (by omega) (by omega) ?_
  try simp (disch := omega) only [hM.nd]
  refine g_icmp_ge_n 36 dX10_openMany_11 (by decide) (by omega) (by omega) (fun c11 => ?_) (fun c11 => ?_)
  · refine g_iload_n dX10_openMany_36 rfl ?_
    refine g_ireturn dX10_openMany_37 rfl (by first | rfl | exact nar_bI _) ?_
    rw [show i = S 1 0 0 by omega]; exact h
  · have ih2 := ih (by omega)
    have hd := hM.wf.dk (d := i) (by omega)
    have hc := cnt_le (fun d => S 12 d 0 == 8) i
    refine g_iload_n dX10_openMany_14 rfl ?_
    refine g_aload_n dX10_openMany_15 rfl ?_
    refine g_iload_n dX10_openMany_16 rfl ?_
    refine g_call1 dX10_openMany_17 clM_holder ml_M_78 gc10 rfl rfl (by decide) (Nat.le_of_ble_eq_true rfl) ?_
    refine SM_holder hM (by omega) ?_
    refine g_if_ge 27 dX10_openMany_20 (by decide) (fun c20 => ?_) (fun c20 => ?_)
    · have hne : (S 12 i 0 == 8) = false := by
        rw [beq_eq_false_iff_ne]
        intro z
        rw [z, hv_8] at c20
        exact absurd c20 (by decide)
      rw [cnt_f (by exact hne)] at ih2
      refine g_iconst (nI 0) dX10_openMany_27 ki_0 ?_
      first | refine g_iadd_n dX10_openMany_28 ?_ | refine g_iadd dX10_openMany_28 ?_
      refine g_ist3_1 dX10_openMany_29 (by decide) rfl ?_
      first | refine g_incn3_2 dX10_openMany_30 ki_1 (by decide) rfl ?_ | refine g_incg3_2 (nI 1) dX10_openMany_30 ki_1 (by decide) rfl ?_
      refine g_goto 4 dX10_openMany_33 (by decide) ?_
      exact ih2
    · have he : (S 12 i 0 == 8) = true := by
        rw [beq_iff_eq]
        rcases Nat.lt_or_ge (S 12 i 0) 8 with z | z
        · rw [hv_p z] at c20; exact absurd (nI_pos' (by omega)) c20
        · omega
      rw [cnt_t (by exact he)] at ih2
      refine g_iconst (nI 1) dX10_openMany_23 ki_1 ?_
      refine g_goto 28 dX10_openMany_24 (by decide) ?_
      first | refine g_iadd_n dX10_openMany_28 ?_ | refine g_iadd dX10_openMany_28 ?_
      refine g_ist3_1 dX10_openMany_29 (by decide) rfl ?_
      first | refine g_incn3_2 dX10_openMany_30 ki_1 (by decide) rfl ?_ | refine g_incg3_2 (nI 1) dX10_openMany_30 ki_1 (by decide) rfl ?_
      refine g_goto 4 dX10_openMany_33 (by decide) ?_
      exact ih2
def f_close (S : BS) : Int32 × BS := if heldAll S 8 = 0 then (nI (S 2 0 0 + 1), cloS S) else (-3, S)
theorem SF_close (M : Mm) (S : BS) (Q : Po) (hB : BK M S) (hH : HM S) (h : ∀ M', FrC M M' → BK M' (f_close S).2 → Q M' (some (.int (f_close S).1))) : Call 60 mF_close [.ref 0] M Q := by
  have hle : heldAll S 8 ≤ 24 := by
    rw [heldAll_8 hB.wf]
    have := cnt_le (fun d => S 12 d 0 == 8) (S 1 0 0)
    have := hB.wf.nd
    omega
  unfold f_close at h
  refine Call_of (m := mF_close) [some (.ref 0)] rfl (fun G => Nat.le_of_ble_eq_true rfl) (fun G => rfl) ?_
  refine g_aload_n dX9_close_0 rfl ?_
  refine g_getr (j := 0) dX9_close_1 gc9 rfl (by decide) rfl (by decide) fl_F_13 ?_
  refine g_call0 dX9_close_4 clB_countOpen ml_F_244 gc0 rfl rfl (by decide) (Nat.le_of_ble_eq_true rfl) ?_
  refine SB_countOpen hB ?_
  refine g_if_le_n 13 dX9_close_7 (by decide) (by omega) (fun c7 => ?_) (fun c7 => ?_)
  · rw [if_pos c7] at h
    refine g_aload_n dX9_close_13 rfl ?_
    refine g_getr (j := 0) dX9_close_14 gc9 rfl (by decide) rfl (by decide) fl_F_13 ?_
    refine g_call0 dX9_close_17 clB_closeYear ml_F_247 gc0 rfl rfl (by decide) (Nat.le_of_ble_eq_true rfl) ?_
    refine SB_closeYear hB (fun M' hE hB' => ?_)
    refine g_aload_n dX9_close_20 rfl ?_
    refine g_getr (j := 0) dX9_close_21 gc9 rfl (by decide) rfl (by decide) fl_F_13 ?_
    refine g_geti (j := 2) dX9_close_24 gc0 rfl (by decide) rfl (by decide) fl_F_250 ?_
    try simp (disch := omega) only [hB'.yr]
    refine g_ireturn dX9_close_27 rfl (by first | rfl | exact nar_bI _) ?_
    exact h M' (FrC.of hE (by decide)) hB'
  · rw [if_neg c7] at h
    refine g_bipush ((-3)) dX9_close_10 kb_m3 ?_
    refine g_ireturn dX9_close_12 rfl (by first | rfl | exact nar_bI _) ?_
    exact h M FrC.rf hB
theorem SM_close (M : Mm) (S : BS) (Q : Po) (hM : MK (M 58) S) (hC : MC M) (hH : HM S) (h : ∀ M', FrM M M' → MK (M' 58) (f_close S).2 → Q M' (some (.int (f_close S).1))) : Call 60 mM_close [.ref 57] M Q := by
  have hw := hM.wf.np
  have hle : heldAll S 8 ≤ 24 := by
    rw [heldAll_8 hM.wf]
    have := cnt_le (fun d => S 12 d 0 == 8) (S 1 0 0)
    have := hM.wf.nd
    omega
  have e0 : ∀ n k, cloI S n k 0 0 0 = S 0 0 0 := fun n k => by rw [cloI_oth (by decide)]
  unfold f_close at h
  refine Call_of (m := mM_close) [some (.ref 57), none, none] rfl (fun G => Nat.le_of_ble_eq_true rfl) (fun G => rfl) ?_
  refine g_aload_n dX10_close_0 rfl ?_
  refine g_call0 dX10_close_1 clM_openMany ml_M_228 gc10 rfl rfl (by decide) (Nat.le_of_ble_eq_true rfl) ?_
  refine SM_openMany hM ?_
  refine g_if_le_n 10 dX10_close_4 (by decide) (by omega) (fun c4 => ?_) (fun c4 => ?_)
  · rw [if_pos c4] at h
    refine g_iconst (nI 0) dX10_close_10 ki_0 ?_
    refine g_ist3_1 dX10_close_11 (by decide) rfl ?_
    refine loop_up (P := fun i => ∀ M', EqO [58] M M' → MK (M' 58) (cloI S i 0) → Go mM_close 60 Q 12 [some (.ref 57), some (.int (nI i)), none] [] M') (S 0 0 0) ?_ 0 (Nat.zero_le _) M EqO.rf ?_
    rotate_left
    · rw [show cloI S 0 0 = S from ?_]
      · exact hM
      · funext a b c; unfold cloI; rw [if_neg (by omega)]
    intro i hi ih M' hE hM'
    refine g_iload_n dX10_close_12 rfl ?_
    refine g_aload_n dX10_close_13 rfl ?_
    refine g_getr (j := 0) dX10_close_14 gc10 rfl (by decide) rfl (by decide) fl_M_9 ?_
    refine g_iconst (nI 0) dX10_close_17 ki_0 ?_
    refine g_iald_n dX10_close_18 (by first | rfl | assumption) (by first | decide | assumption) (by omega) (by omega) ?_
    try simp (disch := omega) only [hM'.np, e0]
    refine g_icmp_ge_n 67 dX10_close_19 (by decide) (by omega) (by omega) (fun c19 => ?_) (fun c19 => ?_)
    · obtain rfl : i = S 0 0 0 := by omega
      have ey : M' 58 1 = nI (S 2 0 0) := by
        have := hM'.yr
        rw [cloI_oth (by decide)] at this
        exact this
      skip
      refine g_aload_n dX10_close_67 rfl ?_
      refine g_getr (j := 0) dX10_close_68 gc10 rfl (by decide) rfl (by decide) fl_M_9 ?_
      refine g_iconst (nI 2) dX10_close_71 ki_2 ?_
      refine g_iconst (nI 0) dX10_close_72 ki_0 ?_
      refine g_iast_n dX10_close_73 (by first | rfl | assumption) (by first | decide | assumption) (by omega) (by omega) ?_
      refine g_aload_n dX10_close_74 rfl ?_
      refine g_getr (j := 0) dX10_close_75 gc10 rfl (by decide) rfl (by decide) fl_M_9 ?_
      refine g_iconst (nI 1) dX10_close_78 ki_1 ?_
      refine g_dup2 dX10_close_79 rfl rfl ?_
      refine g_iald_n dX10_close_80 (by first | rfl | assumption) (by first | decide | assumption) (by omega) (by omega) ?_
      try simp (disch := omega) only [mset_off, mset_at, ey]
      refine g_iconst (nI 1) dX10_close_81 ki_1 ?_
      first | refine g_iadd_n dX10_close_82 ?_ | refine g_iadd dX10_close_82 ?_
      refine g_iast_n dX10_close_83 (by first | rfl | assumption) (by first | decide | assumption) (by omega) (by omega) ?_
      refine g_aload_n dX10_close_84 rfl ?_
      refine g_getr (j := 0) dX10_close_85 gc10 rfl (by decide) rfl (by decide) fl_M_9 ?_
      refine g_iconst (nI 1) dX10_close_88 ki_1 ?_
      refine g_iald_n dX10_close_89 (by first | rfl | assumption) (by first | decide | assumption) (by omega) (by omega) ?_
      try simp (disch := omega) only [mset_off, mset_at, ey]
      refine g_ireturn dX10_close_90 rfl (by first | rfl | exact nar_bI _) ?_
      refine h (mset (mset M' 58 2 (nI 0)) 58 1 (nI (S 2 0 0 + 1))) (FrM.of (hE.tr ((EqO.set (by decide)).tr (EqO.set (by decide)))) (by decide)) (MKclose hM' hM.wf ?_ ?_ (fun j h1 h2 => ?_) (fun hn hq => ?_))
      · rw [mset_at]
      · rw [mset_off (by omega), mset_at]
      · rw [mset_off (by omega), mset_off (by omega)]
      · rcases Nat.lt_or_ge (S 12 0 0) (S 0 0 0) with z | z
        · exact z
        · exact absurd (hM.wf.out z) (by rw [hH.here hn hq]; decide)
    · refine g_iconst (nI 0) dX10_close_22 ki_0 ?_
      refine g_ist3_2 dX10_close_23 (by decide) rfl ?_
      refine loop_up (P := fun j => ∀ M', EqO [58] M M' → MK (M' 58) (cloI S i j) → Go mM_close 60 Q 24 [some (.ref 57), some (.int (nI i)), some (.int (nI j))] [] M') 4 ?_ 0 (Nat.zero_le _) M' hE hM'
      intro j hj jh M2 hE2 hM2
      refine g_iload_n dX10_close_24 rfl ?_
      refine g_iconst (nI 4) dX10_close_25 ki_4 ?_
      refine g_icmp_ge_n 61 dX10_close_26 (by decide) (by omega) (by omega) (fun c26 => ?_) (fun c26 => ?_)
      · first | refine g_incn3_1 dX10_close_61 ki_1 (by decide) rfl ?_ | refine g_incg3_1 (nI 1) dX10_close_61 ki_1 (by decide) rfl ?_
        refine g_goto 12 dX10_close_64 (by decide) ?_
        refine Go_sub [some (.ref 57), some (.int (nI (i + 1))), none] (by simp [subL]) (ih (by omega) _ hE2 ?_)
        rw [show cloI S (i + 1) 0 = cloI S i j from ?_]
        · exact hM2
        · have : j = 4 := by omega
          subst this
          funext a b c
          unfold cloI
          by_cases z : a = 5 ∧ c < 4 ∧ (b < i ∨ (b = i ∧ c < 4))
          · rw [if_pos z, if_pos (by omega)]
          · rw [if_neg z, if_neg (by omega)]
      · have hps : cloI S i j 5 i j = S 5 i j := by unfold cloI; rw [if_neg (by omega)]
        have hb1 := hM.wf.ps (p := i) (k := j) (by omega) (by omega)
        have hb2 := heldF_le S (fun d => S 12 d 0) i j
        have hb3 := hM.wf.nd
        have hb4 : heldN S i j ≤ 24 := by unfold heldN; omega
        refine g_aload_n dX10_close_29 rfl ?_
        refine g_getr (j := 0) dX10_close_30 gc10 rfl (by decide) rfl (by decide) fl_M_9 ?_
        refine g_bipush (nI 19) dX10_close_33 kb_19 ?_
        refine g_iconst (nI 4) dX10_close_35 ki_4 ?_
        refine g_iload_n dX10_close_36 rfl ?_
        first | refine g_imul_n dX10_close_37 ?_ | refine g_imul dX10_close_37 ?_
        first | refine g_iadd_n dX10_close_38 ?_ | refine g_iadd dX10_close_38 ?_
        refine g_iload_n dX10_close_39 rfl ?_
        first | refine g_iadd_n dX10_close_40 ?_ | refine g_iadd dX10_close_40 ?_
        refine g_sipush (nI 999) dX10_close_41 ks_999 ?_
        refine g_aload_n dX10_close_44 rfl ?_
        refine g_iload_n dX10_close_45 rfl ?_
        refine g_iload_n dX10_close_46 rfl ?_
        refine g_iconst (nI 1) dX10_close_47 ki_1 ?_
        refine g_call3 dX10_close_48 clM_load ml_M_92 gc10 rfl rfl (by decide) (Nat.le_of_ble_eq_true rfl) ?_
        refine SM_loadT hM2 (by rw [e0]; omega) (by omega) ?_
        rw [cloI_held, hps]
        refine g_mmin dX10_close_51 mm_M_231 ms_min ti_java_lang_Math mc_min (Nat.le_of_ble_eq_true rfl) ?_
        rw [nI_min _ _ (by omega) (by omega), Nat.min_comm]
        refine g_iast_n dX10_close_54 (by first | rfl | assumption) (by first | decide | assumption) (by omega) (by omega) ?_
        first | refine g_incn3_2 dX10_close_55 ki_1 (by decide) rfl ?_ | refine g_incg3_2 (nI 1) dX10_close_55 ki_1 (by decide) rfl ?_
        refine g_goto 24 dX10_close_58 (by decide) ?_
        refine jh (by omega) _ (hE2.tr (EqO.set (by decide))) ?_
        rw [cloI_step _ _ _ (by omega), mset_row]
        exact MKpast1 hM2 (by rw [e0]; omega) (by omega) (Nat.min_le_right _ _)
  · rw [if_neg c4] at h
    refine g_bipush ((-3)) dX10_close_7 kb_m3 ?_
    refine g_ireturn dX10_close_9 rfl (by first | rfl | exact nar_bI _) ?_
    exact h M FrM.rf hM
theorem both_close : Both mF_close mM_close [] := both_book f_close (fun M S Q => SF_close M S Q) (fun M S Q => SM_close M S Q) (fun S hW hH => by
  unfold f_close
  split
  · intro d hd
    exact absurd hd (Nat.not_lt_zero d)
  · exact hH)
/-! VECTORS: a new one stands behind all that are not lesser -/
def posV (f : Nat → Nat) (v : Nat) : Nat → Nat
  | 0 => 0
  | k + 1 => if f k < v then posV f v k else k + 1
theorem posV_le (f : Nat → Nat) (v : Nat) : ∀ k, posV f v k ≤ k
  | 0 => Nat.le_refl 0
  | k + 1 => by
    rw [posV]
    split
    · have := posV_le f v k; omega
    · exact Nat.le_refl _
def insV (f : Nat → Nat) (n v : Nat) : Nat → Nat := fun j => if j < posV f v n then f j else if j = posV f v n then v else f (j - 1)
def vecV (S : BS) (g : Nat → Nat) (k : Nat) : Nat → Nat → Nat
  | 0 => fun _ => 0
  | n + 1 => if hr S n = true then insV (vecV S g k n) (cnt (hr S) n) (loadF S g n k) else vecV S g k n
theorem insV_le {f : Nat → Nat} {n v c : Nat} (h : ∀ j, j < n → f j ≤ c) (hv : v ≤ c) : ∀ j, j < n + 1 → insV f n v j ≤ c := fun j hj => by
  have := posV_le f v n
  unfold insV
  split
  · exact h j (by omega)
  · split
    · exact hv
    · exact h (j - 1) (by omega)
theorem loadF_le {S : BS} (hW : WF S) (g : Nat → Nat) {k p : Nat} (hk : k < 4) (hp : p < S 0 0 0) : loadF S g p k ≤ 1025 := by
  have hw := hW.np
  have hw2 := hW.nd
  have h1 := hW.ps (p := p) (k := k) (by omega) hk
  have h2 := headN_le S p k
  have h3 := heldF_le S g p k
  unfold loadF
  omega
theorem vecV_le {S : BS} (hW : WF S) (g : Nat → Nat) {k : Nat} (hk : k < 4) : ∀ {n : Nat}, n ≤ S 0 0 0 → ∀ j, j < cnt (hr S) n → vecV S g k n j ≤ 1025
  | 0, _, j, hj => by rw [cnt] at hj; omega
  | n + 1, hn, j, hj => by
    have ih := vecV_le hW g hk (n := n) (by omega)
    rw [vecV]
    split
    · rename_i hc
      rw [cnt_t hc] at hj
      exact insV_le ih (loadF_le hW g hk (by omega)) j hj
    · rename_i hc
      rw [cnt_f (by simpa using hc)] at hj
      exact ih j hj
theorem SL_insert_28 {d : Nat} {M : Mm} {Q : Po} {f : Nat → Nat} {n v : Nat} (hn : n < 8) (hv : v ≤ 1025) (hf : ∀ j, j < n → M 28 j = nI (f j)) (hf2 : ∀ j, j < n → f j ≤ 1025) (h : ∀ M', EqO [28] M M' → (∀ j, j < n + 1 → M' 28 j = nI (insV f n v j)) → Q M' none) : Call (d + 1) mL_insertFalling [.ref 28, .int (nI n), .int (nI v)] M Q := by
  refine Call_of (m := mL_insertFalling) [some (.ref 28), some (.int (nI n)), some (.int (nI v)), none] rfl (fun G => Nat.le_of_ble_eq_true rfl) (fun G => rfl) ?_
  refine g_iload_n dX2_insertFalling_0 rfl ?_
  refine g_if_lt_n 10 dX2_insertFalling_1 (by decide) (by omega) ?_
  refine g_iload_n dX2_insertFalling_4 rfl ?_
  refine g_aload_n dX2_insertFalling_5 rfl ?_
  refine g_alen dX2_insertFalling_6 (by first | rfl | assumption) (by first | decide | assumption) ?_
  refine g_icmp_lt_n 11 dX2_insertFalling_7 (by decide) (by omega) (by omega) (fun c7 => ?_) (fun c7 => ?_)
  · refine g_iload_n dX2_insertFalling_11 rfl ?_
    refine g_ist4_3 dX2_insertFalling_12 (by decide) rfl ?_
    suffices hloop : ∀ i, i ≤ n → ∀ M', EqO [28] M M' → (∀ j, j < i → M' 28 j = nI (f j)) → (∀ j, i < j → j ≤ n → M' 28 j = nI (f (j - 1))) → posV f v n = posV f v i → Go mL_insertFalling (d + 1) Q 13 [some (.ref 28), some (.int (nI n)), some (.int (nI v)), some (.int (nI i))] [] M' by
      exact hloop n (Nat.le_refl _) M EqO.rf hf (fun j h1 h2 => absurd h2 (by omega)) rfl
    have hdone : ∀ i, i ≤ n → posV f v n = i → ∀ M', EqO [28] M M' → (∀ j, j < i → M' 28 j = nI (f j)) → (∀ j, i < j → j ≤ n → M' 28 j = nI (f (j - 1))) → Q (mset M' 28 i (nI v)) none := fun i hi hp M' hE hlo hhi => by
      refine h _ (hE.tr (EqO.set (by decide))) (fun j hj => ?_)
      unfold insV
      rw [hp]
      by_cases e : j = i
      · subst e; rw [mset_at, if_neg (by omega), if_pos rfl]
      · rw [mset_off (by omega)]
        rcases Nat.lt_or_ge j i with q | q
        · rw [if_pos q]; exact hlo j q
        · rw [if_neg (by omega), if_neg e]; exact hhi j (by omega) (by omega)
    intro i
    induction i with
    | zero =>
      intro hi M' hE hlo hhi hp
      refine g_iload_n dX2_insertFalling_13 rfl ?_
      refine g_if_le_n 40 dX2_insertFalling_14 (by decide) (by omega) (fun c14 => ?_) (fun c14 => ?_)
      · refine g_aload_n dX2_insertFalling_40 rfl ?_
        refine g_iload_n dX2_insertFalling_41 rfl ?_
        refine g_iload_n dX2_insertFalling_42 rfl ?_
        refine g_iast_n dX2_insertFalling_43 (by first | rfl | assumption) (by first | decide | assumption) (by omega) (by omega) ?_
        refine g_return dX2_insertFalling_44 rfl ?_
        exact hdone 0 hi hp M' hE hlo hhi
      · exact absurd rfl c14
    | succ i ih =>
      intro hi M' hE hlo hhi hp
      have e1 : M' 28 (i + 1 - 1) = nI (f i) := by rw [show i + 1 - 1 = i by omega]; exact hlo i (by omega)
      have hfi := hf2 i (by omega)
      refine g_iload_n dX2_insertFalling_13 rfl ?_
      refine g_if_le_n 40 dX2_insertFalling_14 (by decide) (by omega) (fun c14 => ?_) (fun c14 => ?_)
      · exact absurd c14 (by omega)
      · refine g_aload_n dX2_insertFalling_17 rfl ?_
        refine g_iload_n dX2_insertFalling_18 rfl ?_
        refine g_iconst (nI 1) dX2_insertFalling_19 ki_1 ?_
        first | refine g_isub_n dX2_insertFalling_20 (by omega) ?_ | refine g_isub dX2_insertFalling_20 ?_
        refine g_iald_n dX2_insertFalling_21 (by first | rfl | assumption) (by first | decide | assumption) (by omega) (by omega) ?_
        try simp (disch := omega) only [e1]
        refine g_iload_n dX2_insertFalling_22 rfl ?_
        refine g_icmp_ge_n 40 dX2_insertFalling_23 (by decide) (by omega) (by omega) (fun c23 => ?_) (fun c23 => ?_)
        · refine g_aload_n dX2_insertFalling_40 rfl ?_
          refine g_iload_n dX2_insertFalling_41 rfl ?_
          refine g_iload_n dX2_insertFalling_42 rfl ?_
          refine g_iast_n dX2_insertFalling_43 (by first | rfl | assumption) (by first | decide | assumption) (by omega) (by omega) ?_
          refine g_return dX2_insertFalling_44 rfl ?_
          refine hdone (i + 1) hi ?_ M' hE hlo hhi
          rw [hp, posV, if_neg (by omega)]
        · refine g_aload_n dX2_insertFalling_26 rfl ?_
          refine g_iload_n dX2_insertFalling_27 rfl ?_
          refine g_aload_n dX2_insertFalling_28 rfl ?_
          refine g_iload_n dX2_insertFalling_29 rfl ?_
          refine g_iconst (nI 1) dX2_insertFalling_30 ki_1 ?_
          first | refine g_isub_n dX2_insertFalling_31 (by omega) ?_ | refine g_isub dX2_insertFalling_31 ?_
          refine g_iald_n dX2_insertFalling_32 (by first | rfl | assumption) (by first | decide | assumption) (by omega) (by omega) ?_
          try simp (disch := omega) only [e1]
          refine g_iast_n dX2_insertFalling_33 (by first | rfl | assumption) (by first | decide | assumption) (by omega) (by omega) ?_
          first | refine g_incp4_3 dX2_insertFalling_34 ki_m1 (by omega) (by decide) rfl ?_ | refine g_incg4_3 (-1) dX2_insertFalling_34 ki_m1 (by decide) rfl ?_
          refine g_goto 13 dX2_insertFalling_37 (by decide) ?_
          refine ih (by omega) _ (hE.tr (EqO.set (by decide))) ?_ ?_ ?_
          · intro j hj; rw [mset_off (by omega)]; exact hlo j (by omega)
          · intro j h1 h2
            by_cases e : j = i + 1
            · subst e; rw [mset_at, show i + 1 - 1 = i by omega]
            · rw [mset_off (by omega)]; exact hhi j (by omega) h2
          · rw [hp, posV, if_pos (by omega)]
  · exact absurd hn c7
theorem SL_insert_29 {d : Nat} {M : Mm} {Q : Po} {f : Nat → Nat} {n v : Nat} (hn : n < 8) (hv : v ≤ 1025) (hf : ∀ j, j < n → M 29 j = nI (f j)) (hf2 : ∀ j, j < n → f j ≤ 1025) (h : ∀ M', EqO [29] M M' → (∀ j, j < n + 1 → M' 29 j = nI (insV f n v j)) → Q M' none) : Call (d + 1) mL_insertFalling [.ref 29, .int (nI n), .int (nI v)] M Q := by
  refine Call_of (m := mL_insertFalling) [some (.ref 29), some (.int (nI n)), some (.int (nI v)), none] rfl (fun G => Nat.le_of_ble_eq_true rfl) (fun G => rfl) ?_
  refine g_iload_n dX2_insertFalling_0 rfl ?_
  refine g_if_lt_n 10 dX2_insertFalling_1 (by decide) (by omega) ?_
  refine g_iload_n dX2_insertFalling_4 rfl ?_
  refine g_aload_n dX2_insertFalling_5 rfl ?_
  refine g_alen dX2_insertFalling_6 (by first | rfl | assumption) (by first | decide | assumption) ?_
  refine g_icmp_lt_n 11 dX2_insertFalling_7 (by decide) (by omega) (by omega) (fun c7 => ?_) (fun c7 => ?_)
  · refine g_iload_n dX2_insertFalling_11 rfl ?_
    refine g_ist4_3 dX2_insertFalling_12 (by decide) rfl ?_
    suffices hloop : ∀ i, i ≤ n → ∀ M', EqO [29] M M' → (∀ j, j < i → M' 29 j = nI (f j)) → (∀ j, i < j → j ≤ n → M' 29 j = nI (f (j - 1))) → posV f v n = posV f v i → Go mL_insertFalling (d + 1) Q 13 [some (.ref 29), some (.int (nI n)), some (.int (nI v)), some (.int (nI i))] [] M' by
      exact hloop n (Nat.le_refl _) M EqO.rf hf (fun j h1 h2 => absurd h2 (by omega)) rfl
    have hdone : ∀ i, i ≤ n → posV f v n = i → ∀ M', EqO [29] M M' → (∀ j, j < i → M' 29 j = nI (f j)) → (∀ j, i < j → j ≤ n → M' 29 j = nI (f (j - 1))) → Q (mset M' 29 i (nI v)) none := fun i hi hp M' hE hlo hhi => by
      refine h _ (hE.tr (EqO.set (by decide))) (fun j hj => ?_)
      unfold insV
      rw [hp]
      by_cases e : j = i
      · subst e; rw [mset_at, if_neg (by omega), if_pos rfl]
      · rw [mset_off (by omega)]
        rcases Nat.lt_or_ge j i with q | q
        · rw [if_pos q]; exact hlo j q
        · rw [if_neg (by omega), if_neg e]; exact hhi j (by omega) (by omega)
    intro i
    induction i with
    | zero =>
      intro hi M' hE hlo hhi hp
      refine g_iload_n dX2_insertFalling_13 rfl ?_
      refine g_if_le_n 40 dX2_insertFalling_14 (by decide) (by omega) (fun c14 => ?_) (fun c14 => ?_)
      · refine g_aload_n dX2_insertFalling_40 rfl ?_
        refine g_iload_n dX2_insertFalling_41 rfl ?_
        refine g_iload_n dX2_insertFalling_42 rfl ?_
        refine g_iast_n dX2_insertFalling_43 (by first | rfl | assumption) (by first | decide | assumption) (by omega) (by omega) ?_
        refine g_return dX2_insertFalling_44 rfl ?_
        exact hdone 0 hi hp M' hE hlo hhi
      · exact absurd rfl c14
    | succ i ih =>
      intro hi M' hE hlo hhi hp
      have e1 : M' 29 (i + 1 - 1) = nI (f i) := by rw [show i + 1 - 1 = i by omega]; exact hlo i (by omega)
      have hfi := hf2 i (by omega)
      refine g_iload_n dX2_insertFalling_13 rfl ?_
      refine g_if_le_n 40 dX2_insertFalling_14 (by decide) (by omega) (fun c14 => ?_) (fun c14 => ?_)
      · exact absurd c14 (by omega)
      · refine g_aload_n dX2_insertFalling_17 rfl ?_
        refine g_iload_n dX2_insertFalling_18 rfl ?_
        refine g_iconst (nI 1) dX2_insertFalling_19 ki_1 ?_
        first | refine g_isub_n dX2_insertFalling_20 (by omega) ?_ | refine g_isub dX2_insertFalling_20 ?_
        refine g_iald_n dX2_insertFalling_21 (by first | rfl | assumption) (by first | decide | assumption) (by omega) (by omega) ?_
        try simp (disch := omega) only [e1]
        refine g_iload_n dX2_insertFalling_22 rfl ?_
        refine g_icmp_ge_n 40 dX2_insertFalling_23 (by decide) (by omega) (by omega) (fun c23 => ?_) (fun c23 => ?_)
        · refine g_aload_n dX2_insertFalling_40 rfl ?_
          refine g_iload_n dX2_insertFalling_41 rfl ?_
          refine g_iload_n dX2_insertFalling_42 rfl ?_
          refine g_iast_n dX2_insertFalling_43 (by first | rfl | assumption) (by first | decide | assumption) (by omega) (by omega) ?_
          refine g_return dX2_insertFalling_44 rfl ?_
          refine hdone (i + 1) hi ?_ M' hE hlo hhi
          rw [hp, posV, if_neg (by omega)]
        · refine g_aload_n dX2_insertFalling_26 rfl ?_
          refine g_iload_n dX2_insertFalling_27 rfl ?_
          refine g_aload_n dX2_insertFalling_28 rfl ?_
          refine g_iload_n dX2_insertFalling_29 rfl ?_
          refine g_iconst (nI 1) dX2_insertFalling_30 ki_1 ?_
          first | refine g_isub_n dX2_insertFalling_31 (by omega) ?_ | refine g_isub dX2_insertFalling_31 ?_
          refine g_iald_n dX2_insertFalling_32 (by first | rfl | assumption) (by first | decide | assumption) (by omega) (by omega) ?_
          try simp (disch := omega) only [e1]
          refine g_iast_n dX2_insertFalling_33 (by first | rfl | assumption) (by first | decide | assumption) (by omega) (by omega) ?_
          first | refine g_incp4_3 dX2_insertFalling_34 ki_m1 (by omega) (by decide) rfl ?_ | refine g_incg4_3 (-1) dX2_insertFalling_34 ki_m1 (by decide) rfl ?_
          refine g_goto 13 dX2_insertFalling_37 (by decide) ?_
          refine ih (by omega) _ (hE.tr (EqO.set (by decide))) ?_ ?_ ?_
          · intro j hj; rw [mset_off (by omega)]; exact hlo j (by omega)
          · intro j h1 h2
            by_cases e : j = i + 1
            · subst e; rw [mset_at, show i + 1 - 1 = i by omega]
            · rw [mset_off (by omega)]; exact hhi j (by omega) h2
          · rw [hp, posV, if_pos (by omega)]
  · exact absurd hn c7
theorem SL_make_28 {d : Nat} {M : Mm} {S : BS} {Q : Po} (hB : BK M S) (g : Nat → Nat) (hg : ∀ i, i < S 1 0 0 → M 2 i = hv (g i)) (hg8 : ∀ i, i < S 1 0 0 → g i ≤ 8) {k : Nat} (hk : k < 4) (h : ∀ M', EqO [28] M M' → (∀ j, j < cnt (hr S) (S 0 0 0) → M' 28 j = nI (vecV S g k (S 0 0 0) j)) → Q M' (some (.int (nI (cnt (hr S) (S 0 0 0)))))) : Call (d + 4) mL_makeVector [.ref 27, .ref 28, .ref 2, .int (nI k)] M Q := by
  have hw := hB.wf.np
  refine Call_of (m := mL_makeVector) [some (.ref 27), some (.ref 28), some (.ref 2), some (.int (nI k)), none, none] rfl (fun G => Nat.le_of_ble_eq_true rfl) (fun G => rfl) ?_
  refine g_iconst (nI 0) dX2_makeVector_0 ki_0 ?_
  refine g_ist6_4 dX2_makeVector_1 (by decide) rfl ?_
  refine g_iconst (nI 0) dX2_makeVector_3 ki_0 ?_
  refine g_ist6_5 dX2_makeVector_4 (by decide) rfl ?_
  refine loop_up (P := fun i => ∀ M', EqO [28] M M' → (∀ j, j < cnt (hr S) i → M' 28 j = nI (vecV S g k i j)) → Go mL_makeVector (d + 4) Q 6 [some (.ref 27), some (.ref 28), some (.ref 2), some (.int (nI k)), some (.int (nI (cnt (hr S) i))), some (.int (nI i))] [] M') (S 0 0 0) ?_ 0 (Nat.zero_le _) M EqO.rf (fun j hj => absurd hj (by rw [cnt]; omega))
  intro i hi ih M' hE hv
  have hB' := hB.eqO hE (by decide)
  have hcl := cnt_le (hr S) i
  refine g_iload dX2_makeVector_6 rfl ?_
  refine g_aload_n dX2_makeVector_8 rfl ?_
  refine g_getr (j := 0) dX2_makeVector_9 gc2 rfl (by decide) rfl (by decide) fl_L_21 ?_
  refine g_geti (j := 0) dX2_makeVector_12 gc0 rfl (by decide) rfl (by decide) fl_L_34 ?_
  try simp (disch := omega) only [hB'.np]
  refine g_icmp_ge_n 66 dX2_makeVector_15 (by decide) (by omega) (by omega) (fun c15 => ?_) (fun c15 => ?_)
  · refine g_iload dX2_makeVector_66 rfl ?_
    refine g_ireturn dX2_makeVector_68 rfl (by first | rfl | exact nar_bI _) ?_
    rw [show i = S 0 0 0 by omega] at hv ⊢
    exact h M' hE hv
  · have hcn : cnt (hr S) i < 8 := by omega
    refine g_iload dX2_makeVector_18 rfl ?_
    refine g_aload_n dX2_makeVector_20 rfl ?_
    refine g_alen dX2_makeVector_21 (by first | rfl | assumption) (by first | decide | assumption) ?_
    refine g_icmp_ge_n 66 dX2_makeVector_22 (by decide) (by omega) (by omega) (fun c22 => ?_) (fun c22 => ?_)
    · exact absurd hcn (by omega)
    · have ih := ih (by omega)
      rw [vecV] at ih
      refine g_aload_n dX2_makeVector_25 rfl ?_
      refine g_getr (j := 0) dX2_makeVector_26 gc2 rfl (by decide) rfl (by decide) fl_L_21 ?_
      refine g_iload dX2_makeVector_29 rfl ?_
      refine g_call1 dX2_makeVector_31 clB_isHere ml_L_38 gc0 rfl rfl (by decide) (Nat.le_of_ble_eq_true rfl) ?_
      refine SB_isHere hB' (by omega) ?_
      refine g_if_ne_b 40 dX2_makeVector_34 (by decide) (fun c34 => ?_) (fun c34 => ?_)
      · rw [if_pos c34, cnt_t c34] at ih
        refine g_aload_n dX2_makeVector_40 rfl ?_
        refine g_iload dX2_makeVector_41 rfl ?_
        refine g_aload_n dX2_makeVector_43 rfl ?_
        refine g_getr (j := 0) dX2_makeVector_44 gc2 rfl (by decide) rfl (by decide) fl_L_21 ?_
        refine g_aload_n dX2_makeVector_47 rfl ?_
        refine g_iload dX2_makeVector_48 rfl ?_
        refine g_iload_n dX2_makeVector_50 rfl ?_
        refine g_call3 dX2_makeVector_51 clB_loadBy ml_L_42 gc0 rfl rfl (by decide) (Nat.le_of_ble_eq_true rfl) ?_
        refine SB_loadBy_2 hB' g (fun j hj => by rw [hE 2 (by decide)]; exact hg j hj) hg8 (by omega) hk ?_
        refine g_calls3 dX2_makeVector_54 clL_insertFalling ml_L_46 (Nat.le_of_ble_eq_true rfl) ?_
        refine SL_insert_28 hcn (loadF_le hB.wf g hk (by omega)) hv (vecV_le hB.wf g hk (by omega)) (fun M2 hE2 hv2 => ?_)
        first | refine g_incn6_4 dX2_makeVector_57 ki_1 (by decide) rfl ?_ | refine g_incg6_4 (nI 1) dX2_makeVector_57 ki_1 (by decide) rfl ?_
        first | refine g_incn6_5 dX2_makeVector_60 ki_1 (by decide) rfl ?_ | refine g_incg6_5 (nI 1) dX2_makeVector_60 ki_1 (by decide) rfl ?_
        refine g_goto 6 dX2_makeVector_63 (by decide) ?_
        exact ih M2 (hE.tr hE2) hv2
      · rw [if_neg (by rw [c34]; decide), cnt_f c34] at ih
        refine g_goto 60 dX2_makeVector_37 (by decide) ?_
        first | refine g_incn6_5 dX2_makeVector_60 ki_1 (by decide) rfl ?_ | refine g_incg6_5 (nI 1) dX2_makeVector_60 ki_1 (by decide) rfl ?_
        refine g_goto 6 dX2_makeVector_63 (by decide) ?_
        exact ih M' hE hv
theorem SL_make_29 {d : Nat} {M : Mm} {S : BS} {Q : Po} (hB : BK M S) (g : Nat → Nat) (hg : ∀ i, i < S 1 0 0 → M 49 i = hv (g i)) (hg8 : ∀ i, i < S 1 0 0 → g i ≤ 8) {k : Nat} (hk : k < 4) (h : ∀ M', EqO [29] M M' → (∀ j, j < cnt (hr S) (S 0 0 0) → M' 29 j = nI (vecV S g k (S 0 0 0) j)) → Q M' (some (.int (nI (cnt (hr S) (S 0 0 0)))))) : Call (d + 4) mL_makeVector [.ref 27, .ref 29, .ref 49, .int (nI k)] M Q := by
  have hw := hB.wf.np
  refine Call_of (m := mL_makeVector) [some (.ref 27), some (.ref 29), some (.ref 49), some (.int (nI k)), none, none] rfl (fun G => Nat.le_of_ble_eq_true rfl) (fun G => rfl) ?_
  refine g_iconst (nI 0) dX2_makeVector_0 ki_0 ?_
  refine g_ist6_4 dX2_makeVector_1 (by decide) rfl ?_
  refine g_iconst (nI 0) dX2_makeVector_3 ki_0 ?_
  refine g_ist6_5 dX2_makeVector_4 (by decide) rfl ?_
  refine loop_up (P := fun i => ∀ M', EqO [29] M M' → (∀ j, j < cnt (hr S) i → M' 29 j = nI (vecV S g k i j)) → Go mL_makeVector (d + 4) Q 6 [some (.ref 27), some (.ref 29), some (.ref 49), some (.int (nI k)), some (.int (nI (cnt (hr S) i))), some (.int (nI i))] [] M') (S 0 0 0) ?_ 0 (Nat.zero_le _) M EqO.rf (fun j hj => absurd hj (by rw [cnt]; omega))
  intro i hi ih M' hE hv
  have hB' := hB.eqO hE (by decide)
  have hcl := cnt_le (hr S) i
  refine g_iload dX2_makeVector_6 rfl ?_
  refine g_aload_n dX2_makeVector_8 rfl ?_
  refine g_getr (j := 0) dX2_makeVector_9 gc2 rfl (by decide) rfl (by decide) fl_L_21 ?_
  refine g_geti (j := 0) dX2_makeVector_12 gc0 rfl (by decide) rfl (by decide) fl_L_34 ?_
  try simp (disch := omega) only [hB'.np]
  refine g_icmp_ge_n 66 dX2_makeVector_15 (by decide) (by omega) (by omega) (fun c15 => ?_) (fun c15 => ?_)
  · refine g_iload dX2_makeVector_66 rfl ?_
    refine g_ireturn dX2_makeVector_68 rfl (by first | rfl | exact nar_bI _) ?_
    rw [show i = S 0 0 0 by omega] at hv ⊢
    exact h M' hE hv
  · have hcn : cnt (hr S) i < 8 := by omega
    refine g_iload dX2_makeVector_18 rfl ?_
    refine g_aload_n dX2_makeVector_20 rfl ?_
    refine g_alen dX2_makeVector_21 (by first | rfl | assumption) (by first | decide | assumption) ?_
    refine g_icmp_ge_n 66 dX2_makeVector_22 (by decide) (by omega) (by omega) (fun c22 => ?_) (fun c22 => ?_)
    · exact absurd hcn (by omega)
    · have ih := ih (by omega)
      rw [vecV] at ih
      refine g_aload_n dX2_makeVector_25 rfl ?_
      refine g_getr (j := 0) dX2_makeVector_26 gc2 rfl (by decide) rfl (by decide) fl_L_21 ?_
      refine g_iload dX2_makeVector_29 rfl ?_
      refine g_call1 dX2_makeVector_31 clB_isHere ml_L_38 gc0 rfl rfl (by decide) (Nat.le_of_ble_eq_true rfl) ?_
      refine SB_isHere hB' (by omega) ?_
      refine g_if_ne_b 40 dX2_makeVector_34 (by decide) (fun c34 => ?_) (fun c34 => ?_)
      · rw [if_pos c34, cnt_t c34] at ih
        refine g_aload_n dX2_makeVector_40 rfl ?_
        refine g_iload dX2_makeVector_41 rfl ?_
        refine g_aload_n dX2_makeVector_43 rfl ?_
        refine g_getr (j := 0) dX2_makeVector_44 gc2 rfl (by decide) rfl (by decide) fl_L_21 ?_
        refine g_aload_n dX2_makeVector_47 rfl ?_
        refine g_iload dX2_makeVector_48 rfl ?_
        refine g_iload_n dX2_makeVector_50 rfl ?_
        refine g_call3 dX2_makeVector_51 clB_loadBy ml_L_42 gc0 rfl rfl (by decide) (Nat.le_of_ble_eq_true rfl) ?_
        refine SB_loadBy_49 hB' g (fun j hj => by rw [hE 49 (by decide)]; exact hg j hj) hg8 (by omega) hk ?_
        refine g_calls3 dX2_makeVector_54 clL_insertFalling ml_L_46 (Nat.le_of_ble_eq_true rfl) ?_
        refine SL_insert_29 hcn (loadF_le hB.wf g hk (by omega)) hv (vecV_le hB.wf g hk (by omega)) (fun M2 hE2 hv2 => ?_)
        first | refine g_incn6_4 dX2_makeVector_57 ki_1 (by decide) rfl ?_ | refine g_incg6_4 (nI 1) dX2_makeVector_57 ki_1 (by decide) rfl ?_
        first | refine g_incn6_5 dX2_makeVector_60 ki_1 (by decide) rfl ?_ | refine g_incg6_5 (nI 1) dX2_makeVector_60 ki_1 (by decide) rfl ?_
        refine g_goto 6 dX2_makeVector_63 (by decide) ?_
        exact ih M2 (hE.tr hE2) hv2
      · rw [if_neg (by rw [c34]; decide), cnt_f c34] at ih
        refine g_goto 60 dX2_makeVector_37 (by decide) ?_
        first | refine g_incn6_5 dX2_makeVector_60 ki_1 (by decide) rfl ?_ | refine g_incg6_5 (nI 1) dX2_makeVector_60 ki_1 (by decide) rfl ?_
        refine g_goto 6 dX2_makeVector_63 (by decide) ?_
        exact ih M' hE hv
/-! VECTORS in the reference; load -/
abbrev hoF (S : BS) : Nat → Nat := fun d => S 12 d 0
theorem SM_vectors {d : Nat} {M : Mm} {S : BS} {Q : Po} (hM : MK (M 58) S) {k : Nat} (hk : k < 4) (h : ∀ M', EqQ [66] M M' → M' 57 11 = nI (cnt (hr S) (S 0 0 0)) → (∀ j, j < cnt (hr S) (S 0 0 0) → M' 66 j = nI (vecV S (hoF S) k (S 0 0 0) j)) → Q M' none) : Call (d + 5) mM_vectors [.ref 57, .int (nI k)] M Q := by
  have hw := hM.wf.np
  refine Call_of (m := mM_vectors) [some (.ref 57), some (.int (nI k)), none, none, none] rfl (fun G => Nat.le_of_ble_eq_true rfl) (fun G => rfl) ?_
  refine g_aload_n dX10_vectors_0 rfl ?_
  refine g_iconst (nI 0) dX10_vectors_1 ki_0 ?_
  refine g_puti (j := 11) dX10_vectors_2 gc10 rfl (by decide) rfl (by decide) fl_M_180 rfl (tyX10_ok 11 (by decide)) (by first | rfl | exact nar_bI _) rfl ?_
  refine g_iconst (nI 0) dX10_vectors_5 ki_0 ?_
  refine g_ist5_2 dX10_vectors_6 (by decide) rfl ?_
  refine loop_up (P := fun i => ∀ M', EqQ [66] M M' → M' 57 11 = nI (cnt (hr S) i) → (∀ j, j < cnt (hr S) i → M' 66 j = nI (vecV S (hoF S) k i j)) → Go mM_vectors (d + 5) Q 7 [some (.ref 57), some (.int (nI k)), some (.int (nI i)), none, none] [] M') (S 0 0 0) ?_ 0 (Nat.zero_le _) _ (EqQ.set57 (by decide)) (by rw [mset_at]; rfl) (fun j hj => absurd hj (by rw [cnt]; omega))
  intro i hi ih M' hE h11 hv
  have hM' := hM.eqQ hE (by decide)
  have hcl := cnt_le (hr S) i
  refine g_iload_n dX10_vectors_7 rfl ?_
  refine g_aload_n dX10_vectors_8 rfl ?_
  refine g_getr (j := 0) dX10_vectors_9 gc10 rfl (by decide) rfl (by decide) fl_M_9 ?_
  refine g_iconst (nI 0) dX10_vectors_12 ki_0 ?_
  refine g_iald_n dX10_vectors_13 (by first | rfl | assumption) (by first | decide | assumption) (by omega) (by omega) ?_
  try simp (disch := omega) only [hM'.np]
  refine g_icmp_ge_n 102 dX10_vectors_14 (by decide) (by omega) (by omega) (fun c14 => ?_) (fun c14 => ?_)
  · refine g_return dX10_vectors_102 rfl ?_
    rw [show i = S 0 0 0 by omega] at hv h11
    exact h M' hE h11 hv
  · have ih := ih (by omega)
    rw [vecV] at ih
    refine g_aload_n dX10_vectors_17 rfl ?_
    refine g_iload_n dX10_vectors_18 rfl ?_
    refine g_call1 dX10_vectors_19 clM_isHere ml_M_100 gc10 rfl rfl (by decide) (Nat.le_of_ble_eq_true rfl) ?_
    refine SM_isHere hM' (by omega) ?_
    refine g_if_eq_b 96 dX10_vectors_22 (by decide) (fun c22 => ?_) (fun c22 => ?_)
    · rw [if_neg (by rw [c22]; decide), cnt_f c22] at ih
      first | refine g_incn5_2 dX10_vectors_96 ki_1 (by decide) rfl ?_ | refine g_incg5_2 (nI 1) dX10_vectors_96 ki_1 (by decide) rfl ?_
      refine g_goto 7 dX10_vectors_99 (by decide) ?_
      exact ih M' hE h11 hv
    · rw [if_pos c22, cnt_t c22] at ih
      have hl := loadF_le hM.wf (hoF S) (k := k) (p := i) hk (by omega)
      have hf2 := vecV_le hM.wf (hoF S) hk (n := i) (by omega)
      refine g_aload_n dX10_vectors_25 rfl ?_
      refine g_iload_n dX10_vectors_26 rfl ?_
      refine g_iload_n dX10_vectors_27 rfl ?_
      refine g_call2 dX10_vectors_28 clM_loadOf ml_M_132 gc10 rfl rfl (by decide) (Nat.le_of_ble_eq_true rfl) ?_
      refine SM_loadOf hM' (by omega) hk ?_
      rw [show loadN S i k = loadF S (hoF S) i k from rfl]
      refine g_ist5_3 dX10_vectors_31 (by decide) rfl ?_
      refine g_aload_n dX10_vectors_32 rfl ?_
      refine g_geti (j := 11) dX10_vectors_33 gc10 rfl (by decide) rfl (by decide) fl_M_180 ?_
      try simp (disch := omega) only [h11]
      refine g_ist5_4 dX10_vectors_36 (by decide) rfl ?_
      generalize loadF S (hoF S) i k = v at hl ih ⊢
      generalize vecV S (hoF S) k i = f at hv hf2 ih
      generalize cnt (hr S) i = n at hcl h11 hv hf2 ih ⊢
      have hn : n < 8 := by omega
      suffices hloop : ∀ p, p ≤ n → ∀ M2, EqO [66] M' M2 → (∀ j, j < p → M2 66 j = nI (f j)) → (∀ j, p < j → j ≤ n → M2 66 j = nI (f (j - 1))) → posV f v n = posV f v p → Go mM_vectors (d + 5) Q 38 [some (.ref 57), some (.int (nI k)), some (.int (nI i)), some (.int (nI v)), some (.int (nI p))] [] M2 by
        exact hloop n (Nat.le_refl _) M' EqO.rf hv (fun j h1 h2 => absurd h2 (by omega)) rfl
      have hdone : ∀ p, p ≤ n → posV f v n = p → ∀ M2, EqO [66] M' M2 → (∀ j, j < p → M2 66 j = nI (f j)) → (∀ j, p < j → j ≤ n → M2 66 j = nI (f (j - 1))) → ∀ j, j < n + 1 → mset M2 66 p (nI v) 66 j = nI (insV f n v j) := fun p hi hp M2 hE2 hlo hhi j hj => by
        unfold insV
        rw [hp]
        by_cases e : j = p
        · subst e; rw [mset_at, if_neg (by omega), if_pos rfl]
        · rw [mset_off (by omega)]
          rcases Nat.lt_or_ge j p with q | q
          · rw [if_pos q]; exact hlo j q
          · rw [if_neg (by omega), if_neg e]; exact hhi j (by omega) (by omega)
      intro p
      induction p with
      | zero =>
        intro hp0 M2 hE2 hlo hhi hp
        have e11 : M2 57 11 = nI n := by rw [hE2 57 (by decide)]; exact h11
        refine g_iload dX10_vectors_38 rfl ?_
        refine g_if_le_n 78 dX10_vectors_40 (by decide) (by omega) (fun c40 => ?_) (fun c40 => ?_)
        · refine g_aload_n dX10_vectors_78 rfl ?_
          refine g_getr (j := 10) dX10_vectors_79 gc10 rfl (by decide) rfl (by decide) fl_M_35 ?_
          refine g_iload dX10_vectors_82 rfl ?_
          refine g_iload_n dX10_vectors_84 rfl ?_
          refine g_iast_n dX10_vectors_85 (by first | rfl | assumption) (by first | decide | assumption) (by omega) (by omega) ?_
          refine g_aload_n dX10_vectors_86 rfl ?_
          refine g_dup dX10_vectors_87 rfl ?_
          refine g_geti (j := 11) dX10_vectors_88 gc10 rfl (by decide) rfl (by decide) fl_M_180 ?_
          try simp (disch := omega) only [mset_off, e11]
          refine g_iconst (nI 1) dX10_vectors_91 ki_1 ?_
          first | refine g_iadd_n dX10_vectors_92 ?_ | refine g_iadd dX10_vectors_92 ?_
          refine g_puti (j := 11) dX10_vectors_93 gc10 rfl (by decide) rfl (by decide) fl_M_180 rfl (tyX10_ok 11 (by decide)) (by first | rfl | exact nar_bI _) rfl ?_
          first | refine g_incn5_2 dX10_vectors_96 ki_1 (by decide) rfl ?_ | refine g_incg5_2 (nI 1) dX10_vectors_96 ki_1 (by decide) rfl ?_
          refine g_goto 7 dX10_vectors_99 (by decide) ?_
          refine Go_sub [some (.ref 57), some (.int (nI k)), some (.int (nI (i + 1))), none, none] (by simp [subL]) (ih _ (hE.tr ((EqQ.ofO hE2).tr ((EqQ.set (by decide)).tr (EqQ.set57 (by decide))))) (by rw [mset_at]) (fun j hj => ?_))
          rw [mset_off (by omega)]
          exact hdone 0 hp0 hp M2 hE2 hlo hhi j hj
        · exact absurd rfl c40
      | succ p ihp =>
        intro hp0 M2 hE2 hlo hhi hp
        have e11 : M2 57 11 = nI n := by rw [hE2 57 (by decide)]; exact h11
        have e1 : M2 66 (p + 1 - 1) = nI (f p) := by rw [show p + 1 - 1 = p by omega]; exact hlo p (by omega)
        have hfi := hf2 p (by omega)
        refine g_iload dX10_vectors_38 rfl ?_
        refine g_if_le_n 78 dX10_vectors_40 (by decide) (by omega) (fun c40 => ?_) (fun c40 => ?_)
        · exact absurd c40 (by omega)
        · refine g_aload_n dX10_vectors_43 rfl ?_
          refine g_getr (j := 10) dX10_vectors_44 gc10 rfl (by decide) rfl (by decide) fl_M_35 ?_
          refine g_iload dX10_vectors_47 rfl ?_
          refine g_iconst (nI 1) dX10_vectors_49 ki_1 ?_
          first | refine g_isub_n dX10_vectors_50 (by omega) ?_ | refine g_isub dX10_vectors_50 ?_
          refine g_iald_n dX10_vectors_51 (by first | rfl | assumption) (by first | decide | assumption) (by omega) (by omega) ?_
          try simp (disch := omega) only [e1, mset_off, e11]
          refine g_iload_n dX10_vectors_52 rfl ?_
          refine g_icmp_ge_n 78 dX10_vectors_53 (by decide) (by omega) (by omega) (fun c53 => ?_) (fun c53 => ?_)
          · refine g_aload_n dX10_vectors_78 rfl ?_
            refine g_getr (j := 10) dX10_vectors_79 gc10 rfl (by decide) rfl (by decide) fl_M_35 ?_
            refine g_iload dX10_vectors_82 rfl ?_
            refine g_iload_n dX10_vectors_84 rfl ?_
            refine g_iast_n dX10_vectors_85 (by first | rfl | assumption) (by first | decide | assumption) (by omega) (by omega) ?_
            refine g_aload_n dX10_vectors_86 rfl ?_
            refine g_dup dX10_vectors_87 rfl ?_
            refine g_geti (j := 11) dX10_vectors_88 gc10 rfl (by decide) rfl (by decide) fl_M_180 ?_
            try simp (disch := omega) only [e1, mset_off, e11]
            refine g_iconst (nI 1) dX10_vectors_91 ki_1 ?_
            first | refine g_iadd_n dX10_vectors_92 ?_ | refine g_iadd dX10_vectors_92 ?_
            refine g_puti (j := 11) dX10_vectors_93 gc10 rfl (by decide) rfl (by decide) fl_M_180 rfl (tyX10_ok 11 (by decide)) (by first | rfl | exact nar_bI _) rfl ?_
            first | refine g_incn5_2 dX10_vectors_96 ki_1 (by decide) rfl ?_ | refine g_incg5_2 (nI 1) dX10_vectors_96 ki_1 (by decide) rfl ?_
            refine g_goto 7 dX10_vectors_99 (by decide) ?_
            refine Go_sub [some (.ref 57), some (.int (nI k)), some (.int (nI (i + 1))), none, none] (by simp [subL]) (ih _ (hE.tr ((EqQ.ofO hE2).tr ((EqQ.set (by decide)).tr (EqQ.set57 (by decide))))) (by rw [mset_at]) (fun j hj => ?_))
            rw [mset_off (by omega)]
            refine hdone (p + 1) hp0 ?_ M2 hE2 hlo hhi j hj
            rw [hp, posV, if_neg (by omega)]
          · refine g_aload_n dX10_vectors_56 rfl ?_
            refine g_getr (j := 10) dX10_vectors_57 gc10 rfl (by decide) rfl (by decide) fl_M_35 ?_
            refine g_iload dX10_vectors_60 rfl ?_
            refine g_aload_n dX10_vectors_62 rfl ?_
            refine g_getr (j := 10) dX10_vectors_63 gc10 rfl (by decide) rfl (by decide) fl_M_35 ?_
            refine g_iload dX10_vectors_66 rfl ?_
            refine g_iconst (nI 1) dX10_vectors_68 ki_1 ?_
            first | refine g_isub_n dX10_vectors_69 (by omega) ?_ | refine g_isub dX10_vectors_69 ?_
            refine g_iald_n dX10_vectors_70 (by first | rfl | assumption) (by first | decide | assumption) (by omega) (by omega) ?_
            try simp (disch := omega) only [e1, mset_off, e11]
            refine g_iast_n dX10_vectors_71 (by first | rfl | assumption) (by first | decide | assumption) (by omega) (by omega) ?_
            first | refine g_incp5_4 dX10_vectors_72 ki_m1 (by omega) (by decide) rfl ?_ | refine g_incg5_4 (-1) dX10_vectors_72 ki_m1 (by decide) rfl ?_
            refine g_goto 38 dX10_vectors_75 (by decide) ?_
            refine ihp (by omega) _ (hE2.tr (EqO.set (by decide))) ?_ ?_ ?_
            · intro j hj; rw [mset_off (by omega)]; exact hlo j (by omega)
            · intro j h1 h2
              by_cases e : j = p + 1
              · subst e; rw [mset_at, show p + 1 - 1 = p by omega]
              · rw [mset_off (by omega)]; exact hhi j (by omega) h2
            · rw [hp, posV, if_pos (by omega)]
def f_load (k i : Int32) (S : BS) : Int32 × BS := (if inR k 4 = true ∧ inR i (cnt (hr S) (S 0 0 0)) = true then nI (vecV S (hoF S) (v2n k) (S 0 0 0) (v2n i)) else -1, S)
theorem SL_placeOfVector {d : Nat} {M : Mm} {S : BS} {Q : Po} (hB : BK M S) {k i : Nat} (hk : k < 4) (hi : i < cnt (hr S) (S 0 0 0)) (h : ∀ M', EqO [28] M M' → Q M' (some (.int (nI (vecV S (hoF S) k (S 0 0 0) i))))) : Call (d + 5) mL_placeOfVector [.ref 27, .int (nI k), .int (nI i)] M Q := by
  have hw := hB.wf.np
  have hcl := cnt_le (hr S) (S 0 0 0)
  refine Call_of (m := mL_placeOfVector) [some (.ref 27), some (.int (nI k)), some (.int (nI i)), none] rfl (fun G => Nat.le_of_ble_eq_true rfl) (fun G => rfl) ?_
  refine g_aload_n dX2_placeOfVector_0 rfl ?_
  refine g_aload_n dX2_placeOfVector_1 rfl ?_
  refine g_getr (j := 1) dX2_placeOfVector_2 gc2 rfl (by decide) rfl (by decide) fl_L_9 ?_
  refine g_aload_n dX2_placeOfVector_5 rfl ?_
  refine g_getr (j := 0) dX2_placeOfVector_6 gc2 rfl (by decide) rfl (by decide) fl_L_21 ?_
  refine g_getr (j := 3) dX2_placeOfVector_9 gc0 rfl (by decide) rfl (by decide) fl_L_25 ?_
  refine g_iload_n dX2_placeOfVector_12 rfl ?_
  refine g_call3 dX2_placeOfVector_13 clL_makeVector ml_L_30 gc2 rfl rfl (by decide) (Nat.le_of_ble_eq_true rfl) ?_
  refine SL_make_28 hB (hoF S) (fun j hj => hB.ho hj) (fun j hj => (hB.wf.dk (by have := hB.wf.nd; omega)).2.2) hk (fun M' hE hv => ?_)
  refine g_ist4_3 dX2_placeOfVector_16 (by decide) rfl ?_
  refine g_iload_n dX2_placeOfVector_17 rfl ?_
  refine g_if_lt_n 44 dX2_placeOfVector_18 (by decide) (by omega) ?_
  refine g_iload_n dX2_placeOfVector_21 rfl ?_
  refine g_iload_n dX2_placeOfVector_22 rfl ?_
  refine g_icmp_ge_n 44 dX2_placeOfVector_23 (by decide) (by omega) (by omega) (fun c23 => ?_) (fun c23 => ?_)
  · exact absurd hi (by omega)
  · refine g_iload_n dX2_placeOfVector_26 rfl ?_
    refine g_aload_n dX2_placeOfVector_27 rfl ?_
    refine g_getr (j := 1) dX2_placeOfVector_28 gc2 rfl (by decide) rfl (by decide) fl_L_9 ?_
    refine g_alen dX2_placeOfVector_31 (by first | rfl | assumption) (by first | decide | assumption) ?_
    refine g_icmp_ge_n 44 dX2_placeOfVector_32 (by decide) (by omega) (by omega) (fun c32 => ?_) (fun c32 => ?_)
    · exact absurd hcl (by omega)
    · refine g_aload_n dX2_placeOfVector_35 rfl ?_
      refine g_getr (j := 1) dX2_placeOfVector_36 gc2 rfl (by decide) rfl (by decide) fl_L_9 ?_
      refine g_iload_n dX2_placeOfVector_39 rfl ?_
      refine g_iald_n dX2_placeOfVector_40 (by first | rfl | assumption) (by first | decide | assumption) (by omega) (by omega) ?_
      try simp (disch := omega) only [hv]
      refine g_goto 45 dX2_placeOfVector_41 (by decide) ?_
      refine g_ireturn dX2_placeOfVector_45 rfl (by first | rfl | exact nar_bI _) ?_
      exact h M' hE
theorem SF_load (k i : Int32) (M : Mm) (S : BS) (Q : Po) (hB : BK M S) (hH : HM S) (h : ∀ M', FrC M M' → BK M' (f_load k i S).2 → Q M' (some (.int (f_load k i S).1))) : Call 60 mF_load [.ref 0, .int k, .int i] M Q := by
  have hw := hB.wf.np
  have hcl := cnt_le (hr S) (S 0 0 0)
  unfold f_load at h
  dsimp only at h
  refine Call_of (m := mF_load) [some (.ref 0), some (.int k), some (.int i)] rfl (fun G => Nat.le_of_ble_eq_true rfl) (fun G => rfl) ?_
  refine g_iload_n dX9_load_0 rfl ?_
  refine g_calls1 dX9_load_1 clF_isKind ml_F_106 (Nat.le_of_ble_eq_true rfl) ?_
  refine SF_isKind k ?_
  refine g_if_eq_b 22 dX9_load_4 (by decide) (fun c4 => ?_) (fun c4 => ?_)
  · rw [if_neg (by rw [c4]; simp)] at h
    refine g_iconst ((-1)) dX9_load_22 ki_m1 ?_
    refine g_ireturn dX9_load_23 rfl (by first | rfl | exact nar_bI _) ?_
    exact h M FrC.rf hB
  · obtain ⟨e, he, rfl⟩ := inR_true c4
    rw [v2n_nI (show e < 2 ^ 31 by omega)] at h
    refine g_iload_n dX9_load_7 rfl ?_
    refine g_if_lt 22 dX9_load_8 (by decide) (fun c8 => ?_) (fun c8 => ?_)
    · rw [if_neg (by rw [inR_f1 c8]; simp)] at h
      refine g_iconst ((-1)) dX9_load_22 ki_m1 ?_
      refine g_ireturn dX9_load_23 rfl (by first | rfl | exact nar_bI _) ?_
      exact h M FrC.rf hB
    · refine g_iload_n dX9_load_11 rfl ?_
      refine g_aload_n dX9_load_12 rfl ?_
      refine g_getr (j := 0) dX9_load_13 gc9 rfl (by decide) rfl (by decide) fl_F_13 ?_
      refine g_call0 dX9_load_16 clB_countHere ml_F_102 gc0 rfl rfl (by decide) (Nat.le_of_ble_eq_true rfl) ?_
      refine SB_countHere hB ?_
      refine g_icmp_lt 24 dX9_load_19 (by decide) (fun c19 => ?_) (fun c19 => ?_)
      · have hin : inR i (cnt (hr S) (S 0 0 0)) = true := inR_t1 (by omega) c8 (Int32.not_le.mpr c19)
        rw [if_pos ⟨c4, hin⟩] at h
        obtain ⟨u, hu, rfl⟩ := inR_true hin
        rw [v2n_nI (show u < 2 ^ 31 by omega)] at h
        refine g_aload_n dX9_load_24 rfl ?_
        refine g_getr (j := 3) dX9_load_25 gc9 rfl (by decide) rfl (by decide) fl_F_31 ?_
        refine g_iload_n dX9_load_28 rfl ?_
        refine g_iload_n dX9_load_29 rfl ?_
        refine g_call2 dX9_load_30 clL_placeOfVector ml_F_216 gc2 rfl rfl (by decide) (Nat.le_of_ble_eq_true rfl) ?_
        refine SL_placeOfVector hB he hu (fun M' hE => ?_)
        refine g_ireturn dX9_load_33 rfl (by first | rfl | exact nar_bI _) ?_
        exact h M' (FrC.of hE (by decide)) (hB.eqO hE (by decide))
      · rw [if_neg (by rw [inR_f2 (by omega) (Nat.le_refl _) (Int32.not_lt.mp c19)]; simp)] at h
        refine g_iconst ((-1)) dX9_load_22 ki_m1 ?_
        refine g_ireturn dX9_load_23 rfl (by first | rfl | exact nar_bI _) ?_
        exact h M FrC.rf hB
theorem SM_load_ (k i : Int32) (M : Mm) (S : BS) (Q : Po) (hM : MK (M 58) S) (hC : MC M) (hH : HM S) (h : ∀ M', FrM M M' → MK (M' 58) (f_load k i S).2 → Q M' (some (.int (f_load k i S).1))) : Call 60 mM_load_ [.ref 57, .int k, .int i] M Q := by
  have hw := hM.wf.np
  have hcl := cnt_le (hr S) (S 0 0 0)
  unfold f_load at h
  dsimp only at h
  refine Call_of (m := mM_load_) [some (.ref 57), some (.int k), some (.int i)] rfl (fun G => Nat.le_of_ble_eq_true rfl) (fun G => rfl) ?_
  refine g_iload_n dX10_load__0 rfl ?_
  refine g_calls1 dX10_load__1 clM_isKind ml_M_117 (Nat.le_of_ble_eq_true rfl) ?_
  refine SM_isKind k ?_
  refine g_if_ne_b 9 dX10_load__4 (by decide) (fun c4 => ?_) (fun c4 => ?_)
  · obtain ⟨e, he, rfl⟩ := inR_true c4
    rw [v2n_nI (show e < 2 ^ 31 by omega)] at h
    refine g_aload_n dX10_load__9 rfl ?_
    refine g_iload_n dX10_load__10 rfl ?_
    refine g_call1 dX10_load__11 clM_vectors ml_M_183 gc10 rfl rfl (by decide) (Nat.le_of_ble_eq_true rfl) ?_
    refine SM_vectors hM he (fun M' hE h11 hv => ?_)
    have h := h M' (FrM.ofQ hE (by decide)) (hM.eqQ hE (by decide))
    refine g_iload_n dX10_load__14 rfl ?_
    refine g_i2l dX10_load__15 ?_
    refine g_lconst (0) dX10_load__16 (by decide) ?_
    refine g_aload_n dX10_load__17 rfl ?_
    refine g_geti (j := 11) dX10_load__18 gc10 rfl (by decide) rfl (by decide) fl_M_180 ?_
    try simp (disch := omega) only [h11]
    refine g_iconst (nI 1) dX10_load__21 ki_1 ?_
    first | refine g_isub_n dX10_load__22 (by omega) ?_ | refine g_isub dX10_load__22 ?_
    refine g_i2l dX10_load__23 ?_
    refine g_calls3 dX10_load__24 clM_in ml_M_68 (Nat.le_of_ble_eq_true rfl) ?_
    refine SM_in _ _ _ ?_
    rw [inJ_R (by omega)]
    refine g_if_eq_b 39 dX10_load__27 (by decide) (fun c27 => ?_) (fun c27 => ?_)
    · rw [if_neg (by rw [c27]; simp)] at h
      refine g_iconst ((-1)) dX10_load__39 ki_m1 ?_
      refine g_ireturn dX10_load__40 rfl (by first | rfl | exact nar_bI _) ?_
      exact h
    · rw [if_pos ⟨c4, c27⟩] at h
      obtain ⟨u, hu, rfl⟩ := inR_true c27
      rw [v2n_nI (show u < 2 ^ 31 by omega)] at h
      refine g_aload_n dX10_load__30 rfl ?_
      refine g_getr (j := 10) dX10_load__31 gc10 rfl (by decide) rfl (by decide) fl_M_35 ?_
      refine g_iload_n dX10_load__34 rfl ?_
      refine g_iald_n dX10_load__35 (by first | rfl | assumption) (by first | decide | assumption) (by omega) (by omega) ?_
      try simp (disch := omega) only [hv]
      refine g_goto 40 dX10_load__36 (by decide) ?_
      refine g_ireturn dX10_load__40 rfl (by first | rfl | exact nar_bI _) ?_
      exact h
  · rw [if_neg (by rw [c4]; simp)] at h
    refine g_iconst ((-1)) dX10_load__7 ki_m1 ?_
    refine g_ireturn dX10_load__8 rfl (by first | rfl | exact nar_bI _) ?_
    exact h M FrM.rf hM
theorem both_load (k i : Int32) : Both mF_load mM_load_ [.int k, .int i] := both_book (f_load k i) (fun M S Q => SF_load k i M S Q) (fun M S Q => SM_load_ k i M S Q) (fun S hW hH => hH)
/-! audit -/
theorem SL_make2 {d : Nat} {M : Mm} {S : BS} {Q : Po} (hB : BK M S) {k : Nat} (hk : k < 4) (h : ∀ M', EqO [28] M M' → (∀ j, j < cnt (hr S) (S 0 0 0) → M' 28 j = nI (vecV S (hoF S) k (S 0 0 0) j)) → Q M' (some (.int (nI (cnt (hr S) (S 0 0 0)))))) : Call (d + 4) mL_makeVector [.ref 27, .ref 28, .ref 2, .int (nI k)] M Q :=
  SL_make_28 hB (hoF S) (fun j hj => hB.ho hj) (fun j hj => (hB.wf.dk (by have := hB.wf.nd; omega)).2.2) hk h
theorem dif_two {a b : Nat} (ha : a ≤ 1025) (hb : b ≤ 1025) : (nI a - nI b < nI 2 ↔ ¬ b + 2 ≤ a) ∧ (nI a - nI b ≤ nI 1 ↔ ¬ b + 2 ≤ a) := by
  have h3 : (nI a - nI b).toInt = (a : Int) - (b : Int) := by
    rw [Int32.toInt_sub, nI_toInt (by omega), nI_toInt (by omega), Int.bmod_def]
    split <;> omega
  rw [Int32.lt_iff_toInt_lt, Int32.le_iff_toInt_le, h3, nI_toInt (by omega), nI_toInt (by omega)]
  constructor <;> omega
def enN (v : Nat → Nat) (i n : Nat) : Nat := cnt (fun j => decide (i < j) && decide (v j + 2 ≤ v i)) n
theorem enN_0 (v : Nat → Nat) (i : Nat) : ∀ {n : Nat}, n ≤ i + 1 → enN v i n = 0
  | 0, _ => rfl
  | n + 1, h => by
    unfold enN
    rw [cnt_f (by rw [decide_eq_false (by omega)]; rfl)]
    exact enN_0 v i (by omega)
theorem enN_t {v : Nat → Nat} {i j : Nat} (h : i < j) (hc : v j + 2 ≤ v i) : enN v i (j + 1) = enN v i j + 1 := cnt_t (by rw [decide_eq_true h, decide_eq_true hc]; rfl)
theorem enN_f {v : Nat → Nat} {i j : Nat} (hc : ¬ v j + 2 ≤ v i) : enN v i (j + 1) = enN v i j := cnt_f (by rw [decide_eq_false hc, Bool.and_false])
theorem enN_le (v : Nat → Nat) (i n : Nat) : enN v i n ≤ n := cnt_le _ _
def sprI (v : Nat → Nat) (n : Nat) : Int32 := if n = 0 then 0 else nI (v 0) - nI (v (n - 1))
theorem SL_spread {d : Nat} {M : Mm} {S : BS} {Q : Po} (hB : BK M S) {k : Nat} (hk : k < 4) (h : ∀ M', EqO [28] M M' → Q M' (some (.int (sprI (vecV S (hoF S) k (S 0 0 0)) (cnt (hr S) (S 0 0 0)))))) : Call (d + 5) mL_spread [.ref 27, .int (nI k)] M Q := by
  have hw := hB.wf.np
  have hcl := cnt_le (hr S) (S 0 0 0)
  unfold sprI at h
  refine Call_of (m := mL_spread) [some (.ref 27), some (.int (nI k)), none] rfl (fun G => Nat.le_of_ble_eq_true rfl) (fun G => rfl) ?_
  refine g_aload_n dX2_spread_0 rfl ?_
  refine g_aload_n dX2_spread_1 rfl ?_
  refine g_getr (j := 1) dX2_spread_2 gc2 rfl (by decide) rfl (by decide) fl_L_9 ?_
  refine g_aload_n dX2_spread_5 rfl ?_
  refine g_getr (j := 0) dX2_spread_6 gc2 rfl (by decide) rfl (by decide) fl_L_21 ?_
  refine g_getr (j := 3) dX2_spread_9 gc0 rfl (by decide) rfl (by decide) fl_L_25 ?_
  refine g_iload_n dX2_spread_12 rfl ?_
  refine g_call3 dX2_spread_13 clL_makeVector ml_L_30 gc2 rfl rfl (by decide) (Nat.le_of_ble_eq_true rfl) ?_
  refine SL_make2 hB hk (fun M' hE hv => ?_)
  have h := h M' hE
  refine g_ist3_2 dX2_spread_16 (by decide) rfl ?_
  refine g_iload_n dX2_spread_17 rfl ?_
  refine g_if_le_n 48 dX2_spread_18 (by decide) (by omega) (fun c18 => ?_) (fun c18 => ?_)
  · rw [if_pos c18] at h
    refine g_iconst (nI 0) dX2_spread_48 ki_0 ?_
    refine g_ireturn dX2_spread_49 rfl (by first | rfl | exact nar_bI _) ?_
    exact h
  · rw [if_neg c18] at h
    refine g_iload_n dX2_spread_21 rfl ?_
    refine g_aload_n dX2_spread_22 rfl ?_
    refine g_getr (j := 1) dX2_spread_23 gc2 rfl (by decide) rfl (by decide) fl_L_9 ?_
    refine g_alen dX2_spread_26 (by first | rfl | assumption) (by first | decide | assumption) ?_
    refine g_icmp_gt_n 48 dX2_spread_27 (by decide) (by omega) (by omega) (fun c27 => ?_) (fun c27 => ?_)
    · exact absurd hcl (by omega)
    · refine g_aload_n dX2_spread_30 rfl ?_
      refine g_getr (j := 1) dX2_spread_31 gc2 rfl (by decide) rfl (by decide) fl_L_9 ?_
      refine g_iconst (nI 0) dX2_spread_34 ki_0 ?_
      refine g_iald_n dX2_spread_35 (by first | rfl | assumption) (by first | decide | assumption) (by omega) (by omega) ?_
      try simp (disch := omega) only [hv]
      refine g_aload_n dX2_spread_36 rfl ?_
      refine g_getr (j := 1) dX2_spread_37 gc2 rfl (by decide) rfl (by decide) fl_L_9 ?_
      refine g_iload_n dX2_spread_40 rfl ?_
      refine g_iconst (nI 1) dX2_spread_41 ki_1 ?_
      first | refine g_isub_n dX2_spread_42 (by omega) ?_ | refine g_isub dX2_spread_42 ?_
      refine g_iald_n dX2_spread_43 (by first | rfl | assumption) (by first | decide | assumption) (by omega) (by omega) ?_
      try simp (disch := omega) only [hv]
      first | refine g_isub_n dX2_spread_44 (by omega) ?_ | refine g_isub dX2_spread_44 ?_
      refine g_goto 49 dX2_spread_45 (by decide) ?_
      refine g_ireturn dX2_spread_49 rfl (by first | rfl | exact nar_bI _) ?_
      exact h
theorem SL_sum {d : Nat} {M : Mm} {S : BS} {Q : Po} (hB : BK M S) {k : Nat} (hk : k < 4) (h : ∀ M', EqO [28] M M' → Q M' (some (.int (nI (sumN (vecV S (hoF S) k (S 0 0 0)) (cnt (hr S) (S 0 0 0))))))) : Call (d + 5) mL_sum [.ref 27, .int (nI k)] M Q := by
  have hw := hB.wf.np
  have hcl := cnt_le (hr S) (S 0 0 0)
  have hvl := vecV_le hB.wf (hoF S) hk (n := S 0 0 0) (Nat.le_refl _)
  refine Call_of (m := mL_sum) [some (.ref 27), some (.int (nI k)), none, none, none] rfl (fun G => Nat.le_of_ble_eq_true rfl) (fun G => rfl) ?_
  refine g_aload_n dX2_sum_0 rfl ?_
  refine g_aload_n dX2_sum_1 rfl ?_
  refine g_getr (j := 1) dX2_sum_2 gc2 rfl (by decide) rfl (by decide) fl_L_9 ?_
  refine g_aload_n dX2_sum_5 rfl ?_
  refine g_getr (j := 0) dX2_sum_6 gc2 rfl (by decide) rfl (by decide) fl_L_21 ?_
  refine g_getr (j := 3) dX2_sum_9 gc0 rfl (by decide) rfl (by decide) fl_L_25 ?_
  refine g_iload_n dX2_sum_12 rfl ?_
  refine g_call3 dX2_sum_13 clL_makeVector ml_L_30 gc2 rfl rfl (by decide) (Nat.le_of_ble_eq_true rfl) ?_
  refine SL_make2 hB hk (fun M' hE hv => ?_)
  have h := h M' hE
  generalize vecV S (hoF S) k (S 0 0 0) = v at hv h hvl
  generalize cnt (hr S) (S 0 0 0) = n at hv h hvl hcl ⊢
  refine g_ist5_2 dX2_sum_16 (by decide) rfl ?_
  refine g_iconst (nI 0) dX2_sum_17 ki_0 ?_
  refine g_ist5_3 dX2_sum_18 (by decide) rfl ?_
  refine g_iconst (nI 0) dX2_sum_19 ki_0 ?_
  refine g_ist5_4 dX2_sum_20 (by decide) rfl ?_
  refine loop_up (P := fun i => Go mL_sum (d + 5) Q 22 [some (.ref 27), some (.int (nI k)), some (.int (nI n)), some (.int (nI (sumN v i))), some (.int (nI i))] [] M') n ?_ 0 (Nat.zero_le _)
  intro i hi ih
  refine g_iload dX2_sum_22 rfl ?_
  refine g_iload_n dX2_sum_24 rfl ?_
  refine g_icmp_ge_n 51 dX2_sum_25 (by decide) (by omega) (by omega) (fun c25 => ?_) (fun c25 => ?_)
  · refine g_iload_n dX2_sum_51 rfl ?_
    refine g_ireturn dX2_sum_52 rfl (by first | rfl | exact nar_bI _) ?_
    rw [show i = n by omega]; exact h
  · refine g_iload dX2_sum_28 rfl ?_
    refine g_bipush (nI 8) dX2_sum_30 kb_8 ?_
    refine g_icmp_ge_n 51 dX2_sum_32 (by decide) (by omega) (by omega) (fun c32 => ?_) (fun c32 => ?_)
    · exact absurd hcl (by omega)
    · have hs := sumN_bd (f := v) (c := 1025) (n := i) (fun x hx => hvl x (by omega))
      have hs2 := hvl i (by omega)
      refine g_iload_n dX2_sum_35 rfl ?_
      refine g_aload_n dX2_sum_36 rfl ?_
      refine g_getr (j := 1) dX2_sum_37 gc2 rfl (by decide) rfl (by decide) fl_L_9 ?_
      refine g_iload dX2_sum_40 rfl ?_
      refine g_iald_n dX2_sum_42 (by first | rfl | assumption) (by first | decide | assumption) (by omega) (by omega) ?_
      try simp (disch := omega) only [hv]
      first | refine g_iadd_n dX2_sum_43 ?_ | refine g_iadd dX2_sum_43 ?_
      refine g_ist5_3 dX2_sum_44 (by decide) rfl ?_
      first | refine g_incn5_4 dX2_sum_45 ki_1 (by decide) rfl ?_ | refine g_incg5_4 (nI 1) dX2_sum_45 ki_1 (by decide) rfl ?_
      refine g_goto 22 dX2_sum_48 (by decide) ?_
      exact ih (by omega)
theorem SL_envy {d : Nat} {M : Mm} {S : BS} {Q : Po} (hB : BK M S) {k : Nat} (hk : k < 4) (h : ∀ M', EqO [28] M M' → Q M' (some (.int (nI (sumN (fun i => enN (vecV S (hoF S) k (S 0 0 0)) i (cnt (hr S) (S 0 0 0))) (cnt (hr S) (S 0 0 0))))))) : Call (d + 5) mL_envy [.ref 27, .int (nI k)] M Q := by
  have hw := hB.wf.np
  have hcl := cnt_le (hr S) (S 0 0 0)
  have hvl := vecV_le hB.wf (hoF S) hk (n := S 0 0 0) (Nat.le_refl _)
  refine Call_of (m := mL_envy) [some (.ref 27), some (.int (nI k)), none, none, none, none] rfl (fun G => Nat.le_of_ble_eq_true rfl) (fun G => rfl) ?_
  refine g_aload_n dX2_envy_0 rfl ?_
  refine g_aload_n dX2_envy_1 rfl ?_
  refine g_getr (j := 1) dX2_envy_2 gc2 rfl (by decide) rfl (by decide) fl_L_9 ?_
  refine g_aload_n dX2_envy_5 rfl ?_
  refine g_getr (j := 0) dX2_envy_6 gc2 rfl (by decide) rfl (by decide) fl_L_21 ?_
  refine g_getr (j := 3) dX2_envy_9 gc0 rfl (by decide) rfl (by decide) fl_L_25 ?_
  refine g_iload_n dX2_envy_12 rfl ?_
  refine g_call3 dX2_envy_13 clL_makeVector ml_L_30 gc2 rfl rfl (by decide) (Nat.le_of_ble_eq_true rfl) ?_
  refine SL_make2 hB hk (fun M' hE hv => ?_)
  have h := h M' hE
  generalize vecV S (hoF S) k (S 0 0 0) = v at hv h hvl
  generalize cnt (hr S) (S 0 0 0) = n at hv h hvl hcl ⊢
  refine g_ist6_2 dX2_envy_16 (by decide) rfl ?_
  refine g_iconst (nI 0) dX2_envy_17 ki_0 ?_
  refine g_ist6_3 dX2_envy_18 (by decide) rfl ?_
  refine g_iconst (nI 0) dX2_envy_19 ki_0 ?_
  refine g_ist6_4 dX2_envy_20 (by decide) rfl ?_
  refine loop_up (P := fun i => Go mL_envy (d + 5) Q 22 [some (.ref 27), some (.int (nI k)), some (.int (nI n)), some (.int (nI (sumN (fun i => enN v i n) i))), some (.int (nI i)), none] [] M') n ?_ 0 (Nat.zero_le _)
  intro i hi ih
  refine g_iload dX2_envy_22 rfl ?_
  refine g_iload_n dX2_envy_24 rfl ?_
  refine g_icmp_ge_n 88 dX2_envy_25 (by decide) (by omega) (by omega) (fun c25 => ?_) (fun c25 => ?_)
  · refine g_iload_n dX2_envy_88 rfl ?_
    refine g_ireturn dX2_envy_89 rfl (by first | rfl | exact nar_bI _) ?_
    rw [show i = n by omega]; exact h
  · refine g_iload dX2_envy_28 rfl ?_
    refine g_bipush (nI 8) dX2_envy_30 kb_8 ?_
    refine g_icmp_ge_n 88 dX2_envy_32 (by decide) (by omega) (by omega) (fun c32 => ?_) (fun c32 => ?_)
    · exact absurd hcl (by omega)
    · have ih := ih (by omega)
      rw [sumN] at ih
      have hs := sumN_bd (f := fun i => enN v i n) (c := 8) (n := i) (fun x hx => Nat.le_trans (enN_le v x n) (by omega))
      refine g_iload dX2_envy_35 rfl ?_
      refine g_iconst (nI 1) dX2_envy_37 ki_1 ?_
      first | refine g_iadd_n dX2_envy_38 ?_ | refine g_iadd dX2_envy_38 ?_
      refine g_ist6_5 dX2_envy_39 (by decide) rfl ?_
      suffices hin : ∀ j, j ≤ n → i + 1 ≤ j → Go mL_envy (d + 5) Q 41 [some (.ref 27), some (.int (nI k)), some (.int (nI n)), some (.int (nI (sumN (fun i => enN v i n) i + enN v i j))), some (.int (nI i)), some (.int (nI j))] [] M' by
        have := hin (i + 1) (by omega) (Nat.le_refl _)
        rw [enN_0 v i (Nat.le_refl (i + 1)), Nat.add_zero] at this
        exact this
      refine loop_up (P := fun j => i + 1 ≤ j → Go mL_envy (d + 5) Q 41 [some (.ref 27), some (.int (nI k)), some (.int (nI n)), some (.int (nI (sumN (fun i => enN v i n) i + enN v i j))), some (.int (nI i)), some (.int (nI j))] [] M') n ?_
      intro j hj jh hij
      have hs2 := enN_le v i j
      refine g_iload dX2_envy_41 rfl ?_
      refine g_iload_n dX2_envy_43 rfl ?_
      refine g_icmp_ge_n 82 dX2_envy_44 (by decide) (by omega) (by omega) (fun c44 => ?_) (fun c44 => ?_)
      · first | refine g_incn6_4 dX2_envy_82 ki_1 (by decide) rfl ?_ | refine g_incg6_4 (nI 1) dX2_envy_82 ki_1 (by decide) rfl ?_
        refine g_goto 22 dX2_envy_85 (by decide) ?_
        refine Go_sub [some (.ref 27), some (.int (nI k)), some (.int (nI n)), some (.int (nI (sumN (fun i => enN v i n) i + enN v i j))), some (.int (nI (i + 1))), none] (by simp [subL]) ?_
        rw [show j = n by omega]
        exact ih
      · have jh := jh (by omega) (by omega)
        have b1 := hvl i (by omega)
        have b2 := hvl j (by omega)
        clear ih
        refine g_iload dX2_envy_47 rfl ?_
        refine g_bipush (nI 8) dX2_envy_49 kb_8 ?_
        refine g_icmp_ge_n 82 dX2_envy_51 (by decide) (by omega) (by omega) (fun c51 => ?_) (fun c51 => ?_)
        · exact absurd hcl (by omega)
        · skip
          refine g_aload_n dX2_envy_54 rfl ?_
          refine g_getr (j := 1) dX2_envy_55 gc2 rfl (by decide) rfl (by decide) fl_L_9 ?_
          refine g_iload dX2_envy_58 rfl ?_
          refine g_iald_n dX2_envy_60 (by first | rfl | assumption) (by first | decide | assumption) (by omega) (by omega) ?_
          try simp (disch := omega) only [hv]
          refine g_aload_n dX2_envy_61 rfl ?_
          refine g_getr (j := 1) dX2_envy_62 gc2 rfl (by decide) rfl (by decide) fl_L_9 ?_
          refine g_iload dX2_envy_65 rfl ?_
          refine g_iald_n dX2_envy_67 (by first | rfl | assumption) (by first | decide | assumption) (by omega) (by omega) ?_
          try simp (disch := omega) only [hv]
          refine g_isub dX2_envy_68 ?_
          refine g_iconst (nI 2) dX2_envy_69 ki_2 ?_
          refine g_icmp_lt 76 dX2_envy_70 (by decide) (fun c70 => ?_) (fun c70 => ?_)
          · rw [(dif_two b1 b2).1] at c70
            rw [enN_f c70] at jh
            first | refine g_incn6_5 dX2_envy_76 ki_1 (by decide) rfl ?_ | refine g_incg6_5 (nI 1) dX2_envy_76 ki_1 (by decide) rfl ?_
            refine g_goto 41 dX2_envy_79 (by decide) ?_
            exact jh
          · rw [(dif_two b1 b2).1] at c70
            rw [enN_t (by omega) (by omega)] at jh
            first | refine g_incn6_3 dX2_envy_73 ki_1 (by decide) rfl ?_ | refine g_incg6_3 (nI 1) dX2_envy_73 ki_1 (by decide) rfl ?_
            first | refine g_incn6_5 dX2_envy_76 ki_1 (by decide) rfl ?_ | refine g_incg6_5 (nI 1) dX2_envy_76 ki_1 (by decide) rfl ?_
            refine g_goto 41 dX2_envy_79 (by decide) ?_
            exact jh
/-! audit, both -/
def f_audit (k w : Int32) (S : BS) : Int32 × BS := (if inR k 4 = true ∧ inR w 3 = true then
    (if w = nI 1 then nI (sumN (fun i => enN (vecV S (hoF S) (v2n k) (S 0 0 0)) i (cnt (hr S) (S 0 0 0))) (cnt (hr S) (S 0 0 0))) else if w = nI 2 then nI (sumN (vecV S (hoF S) (v2n k) (S 0 0 0)) (cnt (hr S) (S 0 0 0))) else sprI (vecV S (hoF S) (v2n k) (S 0 0 0)) (cnt (hr S) (S 0 0 0))) else -1, S)
theorem SF_audit (k w : Int32) (M : Mm) (S : BS) (Q : Po) (hB : BK M S) (hH : HM S) (h : ∀ M', FrC M M' → BK M' (f_audit k w S).2 → Q M' (some (.int (f_audit k w S).1))) : Call 60 mF_audit [.ref 0, .int k, .int w] M Q := by
  unfold f_audit at h
  dsimp only at h
  refine Call_of (m := mF_audit) [some (.ref 0), some (.int k), some (.int w)] rfl (fun G => Nat.le_of_ble_eq_true rfl) (fun G => rfl) ?_
  refine g_iload_n dX9_audit_0 rfl ?_
  refine g_calls1 dX9_audit_1 clF_isKind ml_F_106 (Nat.le_of_ble_eq_true rfl) ?_
  refine SF_isKind k ?_
  refine g_if_ne_b 9 dX9_audit_4 (by decide) (fun c4 => ?_) (fun c4 => ?_)
  · obtain ⟨e, he, rfl⟩ := inR_true c4
    rw [v2n_nI (show e < 2 ^ 31 by omega)] at h
    by_cases hw3 : inR w 3 = true
    · rw [if_pos ⟨c4, hw3⟩] at h
      obtain ⟨u, hu, rfl⟩ := inR_true hw3
      refine g_iload_n dX9_audit_9 rfl ?_
      obtain rfl | rfl | rfl : u = 0 ∨ u = 1 ∨ u = 2 := by omega
      · rw [if_neg (by decide), if_neg (by decide)] at h
        refine g_tswI (off := 26) 36 dX9_audit_10 (by decide) (by decide) (by decide) (by decide) ?_
        refine g_aload_n dX9_audit_36 rfl ?_
        refine g_getr (j := 3) dX9_audit_37 gc9 rfl (by decide) rfl (by decide) fl_F_31 ?_
        refine g_iload_n dX9_audit_40 rfl ?_
        refine g_call1 dX9_audit_41 clL_spread ml_F_253 gc2 rfl rfl (by decide) (Nat.le_of_ble_eq_true rfl) ?_
        refine SL_spread hB he (fun M' hE => ?_)
        refine g_ireturn dX9_audit_44 rfl (by first | rfl | exact nar_bI _) ?_
        exact h M' (FrC.of hE (by decide)) (hB.eqO hE (by decide))
      · rw [if_pos rfl] at h
        refine g_tswI (off := 35) 45 dX9_audit_10 (by decide) (by decide) (by decide) (by decide) ?_
        refine g_aload_n dX9_audit_45 rfl ?_
        refine g_getr (j := 3) dX9_audit_46 gc9 rfl (by decide) rfl (by decide) fl_F_31 ?_
        refine g_iload_n dX9_audit_49 rfl ?_
        refine g_call1 dX9_audit_50 clL_envy ml_F_256 gc2 rfl rfl (by decide) (Nat.le_of_ble_eq_true rfl) ?_
        refine SL_envy hB he (fun M' hE => ?_)
        refine g_ireturn dX9_audit_53 rfl (by first | rfl | exact nar_bI _) ?_
        exact h M' (FrC.of hE (by decide)) (hB.eqO hE (by decide))
      · rw [if_neg (by decide), if_pos rfl] at h
        refine g_tswI (off := 44) 54 dX9_audit_10 (by decide) (by decide) (by decide) (by decide) ?_
        refine g_aload_n dX9_audit_54 rfl ?_
        refine g_getr (j := 3) dX9_audit_55 gc9 rfl (by decide) rfl (by decide) fl_F_31 ?_
        refine g_iload_n dX9_audit_58 rfl ?_
        refine g_call1 dX9_audit_59 clL_sum ml_F_259 gc2 rfl rfl (by decide) (Nat.le_of_ble_eq_true rfl) ?_
        refine SL_sum hB he (fun M' hE => ?_)
        refine g_ireturn dX9_audit_62 rfl (by first | rfl | exact nar_bI _) ?_
        exact h M' (FrC.of hE (by decide)) (hB.eqO hE (by decide))
    · rw [if_neg (fun z => hw3 z.2)] at h
      have hx : w.toInt < 0 ∨ 2 < w.toInt := by
        have h2 : ¬ (0 ≤ w.toInt ∧ w.toInt < ((3 : Nat) : Int)) := fun q => hw3 (decide_eq_true q)
        omega
      refine g_iload_n dX9_audit_9 rfl ?_
      refine g_tswO 63 dX9_audit_10 hx (by decide) ?_
      refine g_iconst ((-1)) dX9_audit_63 ki_m1 ?_
      refine g_ireturn dX9_audit_64 rfl (by first | rfl | exact nar_bI _) ?_
      exact h M FrC.rf hB
  · rw [if_neg (by rw [c4]; simp)] at h
    refine g_iconst ((-1)) dX9_audit_7 ki_m1 ?_
    refine g_ireturn dX9_audit_8 rfl (by first | rfl | exact nar_bI _) ?_
    exact h M FrC.rf hB
theorem SM_audit (k w : Int32) (M : Mm) (S : BS) (Q : Po) (hM : MK (M 58) S) (hC : MC M) (hH : HM S) (h : ∀ M', FrM M M' → MK (M' 58) (f_audit k w S).2 → Q M' (some (.int (f_audit k w S).1))) : Call 60 mM_audit [.ref 57, .int k, .int w] M Q := by
  have hw := hM.wf.np
  have hcl := cnt_le (hr S) (S 0 0 0)
  unfold f_audit at h
  dsimp only at h
  refine Call_of (m := mM_audit) [some (.ref 57), some (.int k), some (.int w), none, none, none, none] rfl (fun G => Nat.le_of_ble_eq_true rfl) (fun G => rfl) ?_
  refine g_iload_n dX10_audit_0 rfl ?_
  refine g_calls1 dX10_audit_1 clM_isKind ml_M_117 (Nat.le_of_ble_eq_true rfl) ?_
  refine SM_isKind k ?_
  refine g_if_eq_b 19 dX10_audit_4 (by decide) (fun c4 => ?_) (fun c4 => ?_)
  · rw [if_neg (by rw [c4]; simp)] at h
    refine g_iconst ((-1)) dX10_audit_19 ki_m1 ?_
    refine g_ireturn dX10_audit_20 rfl (by first | rfl | exact nar_bI _) ?_
    exact h M FrM.rf hM
  · obtain ⟨e, he, rfl⟩ := inR_true c4
    rw [v2n_nI (show e < 2 ^ 31 by omega)] at h
    have hvl := vecV_le hM.wf (hoF S) he (n := S 0 0 0) (Nat.le_refl _)
    refine g_iload_n dX10_audit_7 rfl ?_
    refine g_i2l dX10_audit_8 ?_
    refine g_lconst (0) dX10_audit_9 (by decide) ?_
    refine g_ldc2w (2) dX10_audit_10 kl_M_192 ?_
    refine g_calls3 dX10_audit_13 clM_in ml_M_68 (Nat.le_of_ble_eq_true rfl) ?_
    refine SM_in _ _ _ ?_
    rw [inJ_L (n := 3) (by decide)]
    refine g_if_ne_b 21 dX10_audit_16 (by decide) (fun c16 => ?_) (fun c16 => ?_)
    · rw [if_pos ⟨c4, c16⟩] at h
      refine g_aload_n dX10_audit_21 rfl ?_
      refine g_iload_n dX10_audit_22 rfl ?_
      refine g_call1 dX10_audit_23 clM_vectors ml_M_183 gc10 rfl rfl (by decide) (Nat.le_of_ble_eq_true rfl) ?_
      refine SM_vectors hM he (fun M' hE h11 hv => ?_)
      have h := h M' (FrM.ofQ hE (by decide)) (hM.eqQ hE (by decide))
      generalize vecV S (hoF S) e (S 0 0 0) = v at hv h hvl
      generalize cnt (hr S) (S 0 0 0) = n at hv h hvl hcl h11
      clear hE
      refine g_iconst (nI 0) dX10_audit_26 ki_0 ?_
      refine g_ist7_3 dX10_audit_27 (by decide) rfl ?_
      refine g_iconst (nI 0) dX10_audit_28 ki_0 ?_
      refine g_ist7_4 dX10_audit_29 (by decide) rfl ?_
      refine g_iconst (nI 0) dX10_audit_31 ki_0 ?_
      refine g_ist7_5 dX10_audit_32 (by decide) rfl ?_
      refine loop_up (P := fun i => Go mM_audit 60 Q 34 [some (.ref 57), some (.int (nI e)), some (.int w), some (.int (nI (sumN v i))), some (.int (nI (sumN (fun i => enN v i n) i))), some (.int (nI i)), none] [] M') n ?_ 0 (Nat.zero_le _)
      intro i hi ih
      refine g_iload dX10_audit_34 rfl ?_
      refine g_aload_n dX10_audit_36 rfl ?_
      refine g_geti (j := 11) dX10_audit_37 gc10 rfl (by decide) rfl (by decide) fl_M_180 ?_
      try simp (disch := omega) only [h11, hv]
      refine g_icmp_ge_n 109 dX10_audit_40 (by decide) (by omega) (by omega) (fun c40 => ?_) (fun c40 => ?_)
      · rw [show i = n by omega]
        clear ih
        refine g_iload_n dX10_audit_109 rfl ?_
        refine g_iconst (nI 1) dX10_audit_110 ki_1 ?_
        refine g_icmp_ne 119 dX10_audit_111 (by decide) (fun c111 => ?_) (fun c111 => ?_)
        · rw [if_neg c111] at h
          refine g_iload_n dX10_audit_119 rfl ?_
          refine g_iconst (nI 2) dX10_audit_120 ki_2 ?_
          refine g_icmp_ne 128 dX10_audit_121 (by decide) (fun c121 => ?_) (fun c121 => ?_)
          · rw [if_neg c121] at h
            refine g_aload_n dX10_audit_128 rfl ?_
            refine g_geti (j := 11) dX10_audit_129 gc10 rfl (by decide) rfl (by decide) fl_M_180 ?_
            try simp (disch := omega) only [h11, hv]
            refine g_if_ne_n 139 dX10_audit_132 (by decide) (by omega) (fun c132 => ?_) (fun c132 => ?_)
            · rw [sprI, if_neg c132] at h
              refine g_aload_n dX10_audit_139 rfl ?_
              refine g_getr (j := 10) dX10_audit_140 gc10 rfl (by decide) rfl (by decide) fl_M_35 ?_
              refine g_iconst (nI 0) dX10_audit_143 ki_0 ?_
              refine g_iald_n dX10_audit_144 (by first | rfl | assumption) (by first | decide | assumption) (by omega) (by omega) ?_
              try simp (disch := omega) only [h11, hv]
              refine g_aload_n dX10_audit_145 rfl ?_
              refine g_getr (j := 10) dX10_audit_146 gc10 rfl (by decide) rfl (by decide) fl_M_35 ?_
              refine g_aload_n dX10_audit_149 rfl ?_
              refine g_geti (j := 11) dX10_audit_150 gc10 rfl (by decide) rfl (by decide) fl_M_180 ?_
              try simp (disch := omega) only [h11, hv]
              refine g_iconst (nI 1) dX10_audit_153 ki_1 ?_
              first | refine g_isub_n dX10_audit_154 (by omega) ?_ | refine g_isub dX10_audit_154 ?_
              refine g_iald_n dX10_audit_155 (by first | rfl | assumption) (by first | decide | assumption) (by omega) (by omega) ?_
              try simp (disch := omega) only [h11, hv]
              first | refine g_isub_n dX10_audit_156 (by omega) ?_ | refine g_isub dX10_audit_156 ?_
              refine g_ireturn dX10_audit_157 rfl (by first | rfl | exact nar_bI _) ?_
              exact h
            · rw [sprI, if_pos c132] at h
              refine g_iconst (nI 0) dX10_audit_135 ki_0 ?_
              refine g_goto 157 dX10_audit_136 (by decide) ?_
              refine g_ireturn dX10_audit_157 rfl (by first | rfl | exact nar_bI _) ?_
              exact h
          · rw [if_pos c121] at h
            refine g_iload_n dX10_audit_124 rfl ?_
            refine g_goto 157 dX10_audit_125 (by decide) ?_
            refine g_ireturn dX10_audit_157 rfl (by first | rfl | exact nar_bI _) ?_
            exact h
        · rw [if_pos c111] at h
          refine g_iload dX10_audit_114 rfl ?_
          refine g_goto 157 dX10_audit_116 (by decide) ?_
          refine g_ireturn dX10_audit_157 rfl (by first | rfl | exact nar_bI _) ?_
          exact h
      · have ih := ih (by omega)
        rw [sumN, sumN] at ih
        have hs := sumN_bd (f := fun i => enN v i n) (c := 8) (n := i) (fun x hx => Nat.le_trans (enN_le v x n) (by omega))
        have hs3 := sumN_bd (f := v) (c := 1025) (n := i) (fun x hx => hvl x (by omega))
        have hs4 := hvl i (by omega)
        refine g_iload_n dX10_audit_43 rfl ?_
        refine g_aload_n dX10_audit_44 rfl ?_
        refine g_getr (j := 10) dX10_audit_45 gc10 rfl (by decide) rfl (by decide) fl_M_35 ?_
        refine g_iload dX10_audit_48 rfl ?_
        refine g_iald_n dX10_audit_50 (by first | rfl | assumption) (by first | decide | assumption) (by omega) (by omega) ?_
        try simp (disch := omega) only [h11, hv]
        first | refine g_iadd_n dX10_audit_51 ?_ | refine g_iadd dX10_audit_51 ?_
        refine g_ist7_3 dX10_audit_52 (by decide) rfl ?_
        refine g_iload dX10_audit_53 rfl ?_
        refine g_iconst (nI 1) dX10_audit_55 ki_1 ?_
        first | refine g_iadd_n dX10_audit_56 ?_ | refine g_iadd dX10_audit_56 ?_
        refine g_ist7_6 dX10_audit_57 (by decide) rfl ?_
        suffices hin : ∀ j, j ≤ n → i + 1 ≤ j → Go mM_audit 60 Q 59 [some (.ref 57), some (.int (nI e)), some (.int w), some (.int (nI (sumN v i + v i))), some (.int (nI (sumN (fun i => enN v i n) i + enN v i j))), some (.int (nI i)), some (.int (nI j))] [] M' by
          have := hin (i + 1) (by omega) (Nat.le_refl _)
          rw [enN_0 v i (Nat.le_refl (i + 1)), Nat.add_zero] at this
          exact this
        refine loop_up (P := fun j => i + 1 ≤ j → Go mM_audit 60 Q 59 [some (.ref 57), some (.int (nI e)), some (.int w), some (.int (nI (sumN v i + v i))), some (.int (nI (sumN (fun i => enN v i n) i + enN v i j))), some (.int (nI i)), some (.int (nI j))] [] M') n ?_
        intro j hj jh hij
        have hs2 := enN_le v i j
        refine g_iload dX10_audit_59 rfl ?_
        refine g_aload_n dX10_audit_61 rfl ?_
        refine g_geti (j := 11) dX10_audit_62 gc10 rfl (by decide) rfl (by decide) fl_M_180 ?_
        try simp (disch := omega) only [h11, hv]
        refine g_icmp_ge_n 103 dX10_audit_65 (by decide) (by omega) (by omega) (fun c65 => ?_) (fun c65 => ?_)
        · first | refine g_incn7_5 dX10_audit_103 ki_1 (by decide) rfl ?_ | refine g_incg7_5 (nI 1) dX10_audit_103 ki_1 (by decide) rfl ?_
          refine g_goto 34 dX10_audit_106 (by decide) ?_
          refine Go_sub [some (.ref 57), some (.int (nI e)), some (.int w), some (.int (nI (sumN v i + v i))), some (.int (nI (sumN (fun i => enN v i n) i + enN v i j))), some (.int (nI (i + 1))), none] (by simp [subL]) ?_
          rw [show j = n by omega]
          exact ih
        · have jh := jh (by omega) (by omega)
          have b1 := hvl i (by omega)
          have b2 := hvl j (by omega)
          clear ih
          refine g_iload dX10_audit_68 rfl ?_
          refine g_aload_n dX10_audit_70 rfl ?_
          refine g_getr (j := 10) dX10_audit_71 gc10 rfl (by decide) rfl (by decide) fl_M_35 ?_
          refine g_iload dX10_audit_74 rfl ?_
          refine g_iald_n dX10_audit_76 (by first | rfl | assumption) (by first | decide | assumption) (by omega) (by omega) ?_
          try simp (disch := omega) only [h11, hv]
          refine g_aload_n dX10_audit_77 rfl ?_
          refine g_getr (j := 10) dX10_audit_78 gc10 rfl (by decide) rfl (by decide) fl_M_35 ?_
          refine g_iload dX10_audit_81 rfl ?_
          refine g_iald_n dX10_audit_83 (by first | rfl | assumption) (by first | decide | assumption) (by omega) (by omega) ?_
          try simp (disch := omega) only [h11, hv]
          refine g_isub dX10_audit_84 ?_
          refine g_iconst (nI 1) dX10_audit_85 ki_1 ?_
          refine g_icmp_le 93 dX10_audit_86 (by decide) (fun c86 => ?_) (fun c86 => ?_)
          · rw [(dif_two b1 b2).2] at c86
            rw [enN_f c86] at jh
            refine g_iconst (nI 0) dX10_audit_93 ki_0 ?_
            first | refine g_iadd_n dX10_audit_94 ?_ | refine g_iadd dX10_audit_94 ?_
            refine g_ist7_4 dX10_audit_95 (by decide) rfl ?_
            first | refine g_incn7_6 dX10_audit_97 ki_1 (by decide) rfl ?_ | refine g_incg7_6 (nI 1) dX10_audit_97 ki_1 (by decide) rfl ?_
            refine g_goto 59 dX10_audit_100 (by decide) ?_
            exact jh
          · rw [(dif_two b1 b2).2] at c86
            rw [enN_t (by omega) (by omega)] at jh
            refine g_iconst (nI 1) dX10_audit_89 ki_1 ?_
            refine g_goto 94 dX10_audit_90 (by decide) ?_
            first | refine g_iadd_n dX10_audit_94 ?_ | refine g_iadd dX10_audit_94 ?_
            refine g_ist7_4 dX10_audit_95 (by decide) rfl ?_
            first | refine g_incn7_6 dX10_audit_97 ki_1 (by decide) rfl ?_ | refine g_incg7_6 (nI 1) dX10_audit_97 ki_1 (by decide) rfl ?_
            refine g_goto 59 dX10_audit_100 (by decide) ?_
            exact jh
    · rw [if_neg (by rw [c16]; simp)] at h
      refine g_iconst ((-1)) dX10_audit_19 ki_m1 ?_
      refine g_ireturn dX10_audit_20 rfl (by first | rfl | exact nar_bI _) ?_
      exact h M FrM.rf hM
theorem both_audit (k w : Int32) : Both mF_audit mM_audit [.int k, .int w] := both_book (f_audit k w) (fun M S Q => SF_audit k w M S Q) (fun M S Q => SM_audit k w M S Q) (fun S hW hH => hH)
/-! NEXT: by LOAD, then burden, then number; the row by insertion -/
def lbN (S : BS) (k p : Nat) : Nat := loadN S p k * 40000 + burN S p
def keyN (S : BS) (k p : Nat) : Nat := lbN S k p * 8 + p
def posN (L f : Nat → Nat) (v : Nat) : Nat → Nat
  | 0 => 0
  | k + 1 => if L v < L (f k) then posN L f v k else k + 1
theorem posN_le (L f : Nat → Nat) (v : Nat) : ∀ k, posN L f v k ≤ k
  | 0 => Nat.le_refl 0
  | k + 1 => by
    rw [posN]
    split
    · have := posN_le L f v k; omega
    · exact Nat.le_refl _
theorem posN_hi (L f : Nat → Nat) (v : Nat) : ∀ {k j : Nat}, posN L f v k ≤ j → j < k → L v < L (f j)
  | 0, j, _, hj => by omega
  | k + 1, j, h, hj => by
    rw [posN] at h
    split at h
    · rename_i hc
      rcases Nat.lt_or_ge j k with z | z
      · exact posN_hi L f v h z
      · rw [show j = k by omega]; exact hc
    · omega
theorem posN_lo (L f : Nat → Nat) (v : Nat) : ∀ {k : Nat}, 0 < posN L f v k → ¬ L v < L (f (posN L f v k - 1))
  | 0, h => by rw [posN] at h; omega
  | k + 1, h => by
    rw [posN] at h ⊢
    split
    · rename_i hc
      rw [if_pos hc] at h
      exact posN_lo L f v h
    · rename_i hc
      rw [show k + 1 - 1 = k by omega]; exact hc
def insN (L f : Nat → Nat) (n v : Nat) : Nat → Nat := fun j => if j < posN L f v n then f j else if j = posN L f v n then v else f (j - 1)
def nxV (S : BS) (k : Nat) : Nat → Nat → Nat
  | 0 => fun _ => 0
  | n + 1 => if hr S n = true then insN (lbN S k) (nxV S k n) (cnt (hr S) n) n else nxV S k n
theorem cnt_ins {f g : Nat → Nat} {v pos : Nat} (P : Nat → Bool) (h1 : ∀ j, j < pos → g j = f j) (h2 : g pos = v) (h3 : ∀ j, pos < j → g j = f (j - 1)) : ∀ {n : Nat}, pos ≤ n → cnt (fun j => P (g j)) (n + 1) = cnt (fun j => P (f j)) n + (if P v = true then 1 else 0) := by
  intro n hn
  induction n with
  | zero =>
    have : pos = 0 := by omega
    subst this
    show 0 + (if P (g 0) = true then 1 else 0) = 0 + (if P v = true then 1 else 0)
    rw [h2]
  | succ n ih =>
    by_cases e : pos = n + 1
    · subst e
      rw [cnt, h2, cnt_cong (n := n + 1) (f := fun j => P (f j)) (fun x hx => by rw [h1 x hx])]
    · rw [cnt, ih (by omega), h3 (n + 1) (by omega), show n + 1 - 1 = n by omega, cnt]
      omega
def NX (S : BS) (k n : Nat) : Prop := (∀ j, j < cnt (hr S) n → nxV S k n j < n ∧ hr S (nxV S k n j) = true) ∧ (∀ i j, i < j → j < cnt (hr S) n → keyN S k (nxV S k n i) < keyN S k (nxV S k n j)) ∧ ∀ P : Nat → Bool, cnt (fun q => hr S q && P q) n = cnt (fun j => P (nxV S k n j)) (cnt (hr S) n)
theorem NX_of (S : BS) (k : Nat) : ∀ {n : Nat}, n ≤ 8 → NX S k n
  | 0, _ => ⟨fun j hj => absurd hj (by rw [cnt]; omega), fun i j _ hj => absurd hj (by rw [cnt]; omega), fun _ => rfl⟩
  | n + 1, hn => by
    obtain ⟨h1, h2, h3⟩ := NX_of S k (n := n) (by omega)
    unfold NX
    rw [nxV]
    by_cases hc : hr S n = true
    · rw [if_pos hc, cnt_t hc]
      have hpl := posN_le (lbN S k) (nxV S k n) n (cnt (hr S) n)
      have hhi := fun {j : Nat} => posN_hi (lbN S k) (nxV S k n) n (k := cnt (hr S) n) (j := j)
      have hlo := posN_lo (lbN S k) (nxV S k n) n (k := cnt (hr S) n)
      have e1 : ∀ j, j < posN (lbN S k) (nxV S k n) n (cnt (hr S) n) → insN (lbN S k) (nxV S k n) (cnt (hr S) n) n j = nxV S k n j := fun j hj => by unfold insN; rw [if_pos hj]
      have e2 : insN (lbN S k) (nxV S k n) (cnt (hr S) n) n (posN (lbN S k) (nxV S k n) n (cnt (hr S) n)) = n := by unfold insN; rw [if_neg (by omega), if_pos rfl]
      have e3 : ∀ j, posN (lbN S k) (nxV S k n) n (cnt (hr S) n) < j → insN (lbN S k) (nxV S k n) (cnt (hr S) n) n j = nxV S k n (j - 1) := fun j hj => by unfold insN; rw [if_neg (by omega), if_neg (by omega)]
      generalize insN (lbN S k) (nxV S k n) (cnt (hr S) n) n = g at e1 e2 e3 ⊢
      generalize posN (lbN S k) (nxV S k n) n (cnt (hr S) n) = pos at hpl hhi hlo e1 e2 e3
      generalize nxV S k n = f at h1 h2 h3 hhi hlo e1 e3
      have hbef : ∀ j, j < pos → j < cnt (hr S) n → keyN S k (f j) < keyN S k n := fun j hj hjc => by
        have hl := hlo (by omega)
        have h0 := (h1 (pos - 1) (by omega)).1
        have hlast : keyN S k (f (pos - 1)) < keyN S k n := by unfold keyN; omega
        rcases Nat.lt_or_ge j (pos - 1) with z | z
        · exact Nat.lt_trans (h2 j (pos - 1) z (by omega)) hlast
        · rw [show j = pos - 1 by omega]; exact hlast
      have haft : ∀ j, pos ≤ j → j < cnt (hr S) n → keyN S k n < keyN S k (f j) := fun j hj hjc => by
        have hl := hhi hj hjc
        unfold keyN
        omega
      refine ⟨fun j hj => ?_, fun i j hij hj => ?_, fun P => ?_⟩
      · rcases Nat.lt_trichotomy j pos with z | z | z
        · rw [e1 j z]; have := h1 j (by omega); exact ⟨by omega, this.2⟩
        · rw [z, e2]; exact ⟨by omega, hc⟩
        · rw [e3 j z]; have := h1 (j - 1) (by omega); exact ⟨by omega, this.2⟩
      · rcases Nat.lt_trichotomy j pos with z | z | z
        · rw [e1 j z, e1 i (by omega)]; exact h2 i j hij (by omega)
        · rw [z, e2, e1 i (by omega)]; exact hbef i (by omega) (by omega)
        · rw [e3 j z]
          rcases Nat.lt_trichotomy i pos with y | y | y
          · rw [e1 i y]
            exact Nat.lt_trans (hbef i y (by omega)) (haft (j - 1) (by omega) (by omega))
          · rw [y, e2]; exact haft (j - 1) (by omega) (by omega)
          · rw [e3 i y]; exact h2 (i - 1) (j - 1) (by omega) (by omega)
      · rw [cnt_ins P e1 e2 e3 hpl, ← h3 P, cnt, hc, Bool.true_and]
    · rw [if_neg hc]
      have hc' : hr S n = false := by simpa using hc
      rw [cnt_f hc']
      refine ⟨fun j hj => ⟨Nat.lt_succ_of_lt (h1 j hj).1, (h1 j hj).2⟩, h2, fun P => ?_⟩
      rw [cnt_f (by rw [hc']; rfl)]
      exact h3 P
/-- how many are ahead of one -/
def rnkN (S : BS) (k p n : Nat) : Nat := cnt (fun q => hr S q && decide (keyN S k q < keyN S k p)) n
theorem cnt_pre {n : Nat} {f : Nat → Bool} {i : Nat} (h1 : ∀ j, j < i → f j = true) (h2 : ∀ j, i ≤ j → f j = false) : i ≤ n → cnt f n = i := by
  induction n with
  | zero => intro h; rw [cnt]; omega
  | succ n ih =>
    intro h
    rcases Nat.lt_or_ge n i with z | z
    · have e : i = n + 1 := by omega
      subst e
      have : ∀ m, m ≤ n + 1 → cnt f m = m := fun m hm => by
        induction m with
        | zero => rfl
        | succ m ihm => rw [cnt_t (h1 m (by omega)), ihm (by omega)]
      exact this _ (Nat.le_refl _)
    · rw [cnt_f (h2 n z)]; exact ih z
theorem cnt_ex {f : Nat → Bool} : ∀ {n : Nat}, cnt f n ≠ 0 → ∃ j, j < n ∧ f j = true
  | 0, h => absurd rfl h
  | n + 1, h => by
    by_cases e : f n = true
    · exact ⟨n, by omega, e⟩
    · rw [cnt_f (by simpa using e)] at h
      obtain ⟨j, hj, h2⟩ := cnt_ex h
      exact ⟨j, by omega, h2⟩
theorem cnt_one_le {f : Nat → Bool} {p : Nat} (h : f p = true) : ∀ {n : Nat}, p < n → cnt f n ≠ 0
  | 0, hp => by omega
  | n + 1, hp => by
    by_cases e : p = n
    · subst e; rw [cnt_t h]; omega
    · have := cnt_one_le h (n := n) (by omega)
      rw [cnt]
      omega
theorem NX_rank {S : BS} {k n : Nat} (h : NX S k n) {i : Nat} (hi : i < cnt (hr S) n) : rnkN S k (nxV S k n i) n = i := by
  obtain ⟨h1, h2, h3⟩ := h
  unfold rnkN
  rw [h3 (fun q => decide (keyN S k q < keyN S k (nxV S k n i)))]
  have hc : cnt (fun j => decide (keyN S k (nxV S k n j) < keyN S k (nxV S k n i))) (cnt (hr S) n) = cnt (fun j => decide (j < i)) (cnt (hr S) n) := cnt_cong (fun x hx => by
    rcases Nat.lt_trichotomy x i with z | z | z
    · rw [decide_eq_true z, decide_eq_true (h2 x i z hi)]
    · rw [z, decide_eq_false (Nat.lt_irrefl _), decide_eq_false (Nat.lt_irrefl _)]
    · have := h2 i x z hx
      rw [decide_eq_false (by omega), decide_eq_false (by omega)])
  rw [hc]
  exact cnt_pre (fun j hj => decide_eq_true hj) (fun j hj => decide_eq_false (by omega)) (by omega)
theorem NX_sur {S : BS} {k n : Nat} (h : NX S k n) {p : Nat} (hp : p < n) (hr1 : hr S p = true) : ∃ i, i < cnt (hr S) n ∧ nxV S k n i = p := by
  obtain ⟨h1, h2, h3⟩ := h
  have h4 := h3 (fun q => q == p)
  have h5 := cnt_one_le (f := fun q => hr S q && (q == p)) (p := p) (by simp [hr1]) hp
  rw [h4] at h5
  obtain ⟨j, hj, e⟩ := cnt_ex h5
  exact ⟨j, hj, by simpa using e⟩
/-! next in the class -/
theorem lb_lt {S : BS} (hW : WF S) {k p q : Nat} (hp : p < S 0 0 0) (hq : q < S 0 0 0) : lbN S k p < lbN S k q ↔ loadN S p k < loadN S q k ∨ (loadN S p k = loadN S q k ∧ burN S p < burN S q) := by
  have hw := hW.np
  have b1 := burN_le hW (p := p) (by omega)
  have b2 := burN_le hW (p := q) (by omega)
  unfold lbN
  omega
theorem SL_isNextAheadOf {d : Nat} {M : Mm} {S : BS} {Q : Po} (hB : BK M S) {k p q : Nat} (hk : k < 4) (hp : p < S 0 0 0) (hq : q < S 0 0 0) (h : Q M (some (.int (bI (decide (lbN S k p < lbN S k q)))))) : Call (d + 5) mL_isNextAheadOf [.ref 27, .int (nI p), .int (nI q), .int (nI k)] M Q := by
  have hw := hB.wf.np
  have l1 := load_le hB.wf hk hp
  have l2 := load_le hB.wf hk hq
  have b1 := burN_le hB.wf (p := p) (by omega)
  have b2 := burN_le hB.wf (p := q) (by omega)
  have hiff := lb_lt hB.wf (k := k) hp hq
  refine Call_of (m := mL_isNextAheadOf) [some (.ref 27), some (.int (nI p)), some (.int (nI q)), some (.int (nI k)), none, none] rfl (fun G => Nat.le_of_ble_eq_true rfl) (fun G => rfl) ?_
  refine g_aload_n dX2_isNextAheadOf_0 rfl ?_
  refine g_getr (j := 0) dX2_isNextAheadOf_1 gc2 rfl (by decide) rfl (by decide) fl_L_21 ?_
  refine g_iload_n dX2_isNextAheadOf_4 rfl ?_
  refine g_iload_n dX2_isNextAheadOf_5 rfl ?_
  refine g_call2 dX2_isNextAheadOf_6 clB_loadOf ml_L_58 gc0 rfl rfl (by decide) (Nat.le_of_ble_eq_true rfl) ?_
  refine SB_loadOf hB hp hk ?_
  refine g_ist6_4 dX2_isNextAheadOf_9 (by decide) rfl ?_
  refine g_aload_n dX2_isNextAheadOf_11 rfl ?_
  refine g_getr (j := 0) dX2_isNextAheadOf_12 gc2 rfl (by decide) rfl (by decide) fl_L_21 ?_
  refine g_iload_n dX2_isNextAheadOf_15 rfl ?_
  refine g_iload_n dX2_isNextAheadOf_16 rfl ?_
  refine g_call2 dX2_isNextAheadOf_17 clB_loadOf ml_L_58 gc0 rfl rfl (by decide) (Nat.le_of_ble_eq_true rfl) ?_
  refine SB_loadOf hB hq hk ?_
  refine g_ist6_5 dX2_isNextAheadOf_20 (by decide) rfl ?_
  refine g_iload dX2_isNextAheadOf_22 rfl ?_
  refine g_iload dX2_isNextAheadOf_24 rfl ?_
  refine g_icmp_eq_n 44 dX2_isNextAheadOf_26 (by decide) (by omega) (by omega) (fun c26 => ?_) (fun c26 => ?_)
  · refine g_aload_n dX2_isNextAheadOf_44 rfl ?_
    refine g_getr (j := 0) dX2_isNextAheadOf_45 gc2 rfl (by decide) rfl (by decide) fl_L_21 ?_
    refine g_iload_n dX2_isNextAheadOf_48 rfl ?_
    refine g_call1 dX2_isNextAheadOf_49 clB_burdenOf ml_L_62 gc0 rfl rfl (by decide) (Nat.le_of_ble_eq_true rfl) ?_
    refine SB_burdenOf hB hp ?_
    refine g_aload_n dX2_isNextAheadOf_52 rfl ?_
    refine g_getr (j := 0) dX2_isNextAheadOf_53 gc2 rfl (by decide) rfl (by decide) fl_L_21 ?_
    refine g_iload_n dX2_isNextAheadOf_56 rfl ?_
    refine g_call1 dX2_isNextAheadOf_57 clB_burdenOf ml_L_62 gc0 rfl rfl (by decide) (Nat.le_of_ble_eq_true rfl) ?_
    refine SB_burdenOf hB hq ?_
    refine g_icmp_ge_n 67 dX2_isNextAheadOf_60 (by decide) (by omega) (by omega) (fun c60 => ?_) (fun c60 => ?_)
    · refine g_iconst (nI 0) dX2_isNextAheadOf_67 ki_0 ?_
      refine g_ireturn dX2_isNextAheadOf_68 rfl (by first | rfl | exact nar_bI _) ?_
      exact qb_f h (decide_eq_false (fun z => by have := hiff.mp z; omega))
    · refine g_iconst (nI 1) dX2_isNextAheadOf_63 ki_1 ?_
      refine g_goto 68 dX2_isNextAheadOf_64 (by decide) ?_
      refine g_ireturn dX2_isNextAheadOf_68 rfl (by first | rfl | exact nar_bI _) ?_
      exact qb_t h (decide_eq_true (hiff.mpr (by omega)))
  · refine g_iload dX2_isNextAheadOf_29 rfl ?_
    refine g_iload dX2_isNextAheadOf_31 rfl ?_
    refine g_icmp_ge_n 40 dX2_isNextAheadOf_33 (by decide) (by omega) (by omega) (fun c33 => ?_) (fun c33 => ?_)
    · refine g_iconst (nI 0) dX2_isNextAheadOf_40 ki_0 ?_
      refine g_goto 68 dX2_isNextAheadOf_41 (by decide) ?_
      refine g_ireturn dX2_isNextAheadOf_68 rfl (by first | rfl | exact nar_bI _) ?_
      exact qb_f h (decide_eq_false (fun z => by have := hiff.mp z; omega))
    · refine g_iconst (nI 1) dX2_isNextAheadOf_36 ki_1 ?_
      refine g_goto 68 dX2_isNextAheadOf_37 (by decide) ?_
      refine g_ireturn dX2_isNextAheadOf_68 rfl (by first | rfl | exact nar_bI _) ?_
      exact qb_t h (decide_eq_true (hiff.mpr (by omega)))
theorem SL_insertTurn {d : Nat} {M : Mm} {S : BS} {Q : Po} (hB : BK M S) {k v n : Nat} {f : Nat → Nat} (hk : k < 4) (hv : v < S 0 0 0) (hn : n < 8) (hf : ∀ j, j < n → M 30 j = nI (f j)) (hf2 : ∀ j, j < n → f j < S 0 0 0) (h : ∀ M', EqO [30] M M' → (∀ j, j < n + 1 → M' 30 j = nI (insN (lbN S k) f n v j)) → Q M' none) : Call (d + 6) mL_insertTurn [.ref 27, .int (nI n), .int (nI v), .int (nI k)] M Q := by
  have hw := hB.wf.np
  refine Call_of (m := mL_insertTurn) [some (.ref 27), some (.int (nI n)), some (.int (nI v)), some (.int (nI k)), none] rfl (fun G => Nat.le_of_ble_eq_true rfl) (fun G => rfl) ?_
  refine g_iload_n dX2_insertTurn_0 rfl ?_
  refine g_if_lt_n 13 dX2_insertTurn_1 (by decide) (by omega) ?_
  refine g_iload_n dX2_insertTurn_4 rfl ?_
  refine g_aload_n dX2_insertTurn_5 rfl ?_
  refine g_getr (j := 3) dX2_insertTurn_6 gc2 rfl (by decide) rfl (by decide) fl_L_18 ?_
  refine g_alen dX2_insertTurn_9 (by first | rfl | assumption) (by first | decide | assumption) ?_
  refine g_icmp_lt_n 14 dX2_insertTurn_10 (by decide) (by omega) (by omega) (fun c10 => ?_) (fun c10 => ?_)
  · refine g_iload_n dX2_insertTurn_14 rfl ?_
    refine g_ist5_4 dX2_insertTurn_15 (by decide) rfl ?_
    suffices hloop : ∀ i, i ≤ n → ∀ M', EqO [30] M M' → (∀ j, j < i → M' 30 j = nI (f j)) → (∀ j, i < j → j ≤ n → M' 30 j = nI (f (j - 1))) → posN (lbN S k) f v n = posN (lbN S k) f v i → Go mL_insertTurn (d + 6) Q 17 [some (.ref 27), some (.int (nI n)), some (.int (nI v)), some (.int (nI k)), some (.int (nI i))] [] M' by
      exact hloop n (Nat.le_refl _) M EqO.rf hf (fun j h1 h2 => absurd h2 (by omega)) rfl
    have hdone : ∀ i, i ≤ n → posN (lbN S k) f v n = i → ∀ M', EqO [30] M M' → (∀ j, j < i → M' 30 j = nI (f j)) → (∀ j, i < j → j ≤ n → M' 30 j = nI (f (j - 1))) → Q (mset M' 30 i (nI v)) none := fun i hi hp M' hE hlo hhi => by
      refine h _ (hE.tr (EqO.set (by decide))) (fun j hj => ?_)
      unfold insN
      rw [hp]
      by_cases e : j = i
      · subst e; rw [mset_at, if_neg (by omega), if_pos rfl]
      · rw [mset_off (by omega)]
        rcases Nat.lt_or_ge j i with q | q
        · rw [if_pos q]; exact hlo j q
        · rw [if_neg (by omega), if_neg e]; exact hhi j (by omega) (by omega)
    intro i
    induction i with
    | zero =>
      intro hi M' hE hlo hhi hp
      refine g_iload dX2_insertTurn_17 rfl ?_
      refine g_if_le_n 62 dX2_insertTurn_19 (by decide) (by omega) (fun c19 => ?_) (fun c19 => ?_)
      · refine g_aload_n dX2_insertTurn_62 rfl ?_
        refine g_getr (j := 3) dX2_insertTurn_63 gc2 rfl (by decide) rfl (by decide) fl_L_18 ?_
        refine g_iload dX2_insertTurn_66 rfl ?_
        refine g_iload_n dX2_insertTurn_68 rfl ?_
        refine g_iast_n dX2_insertTurn_69 (by first | rfl | assumption) (by first | decide | assumption) (by omega) (by omega) ?_
        refine g_return dX2_insertTurn_70 rfl ?_
        exact hdone 0 hi hp M' hE hlo hhi
      · exact absurd rfl c19
    | succ i ih =>
      intro hi M' hE hlo hhi hp
      have hB' := hB.eqO hE (by decide)
      have e1 : M' 30 (i + 1 - 1) = nI (f i) := by rw [show i + 1 - 1 = i by omega]; exact hlo i (by omega)
      have hfi := hf2 i (by omega)
      refine g_iload dX2_insertTurn_17 rfl ?_
      refine g_if_le_n 62 dX2_insertTurn_19 (by decide) (by omega) (fun c19 => ?_) (fun c19 => ?_)
      · exact absurd c19 (by omega)
      · refine g_aload_n dX2_insertTurn_22 rfl ?_
        refine g_iload_n dX2_insertTurn_23 rfl ?_
        refine g_aload_n dX2_insertTurn_24 rfl ?_
        refine g_getr (j := 3) dX2_insertTurn_25 gc2 rfl (by decide) rfl (by decide) fl_L_18 ?_
        refine g_iload dX2_insertTurn_28 rfl ?_
        refine g_iconst (nI 1) dX2_insertTurn_30 ki_1 ?_
        first | refine g_isub_n dX2_insertTurn_31 (by omega) ?_ | refine g_isub dX2_insertTurn_31 ?_
        refine g_iald_n dX2_insertTurn_32 (by first | rfl | assumption) (by first | decide | assumption) (by omega) (by omega) ?_
        try simp (disch := omega) only [e1]
        refine g_iload_n dX2_insertTurn_33 rfl ?_
        refine g_call3 dX2_insertTurn_34 clL_isNextAheadOf ml_L_54 gc2 rfl rfl (by decide) (Nat.le_of_ble_eq_true rfl) ?_
        refine SL_isNextAheadOf hB' hk hv hfi ?_
        refine g_if_eq_b 62 dX2_insertTurn_37 (by decide) (fun c37 => ?_) (fun c37 => ?_)
        · refine g_aload_n dX2_insertTurn_62 rfl ?_
          refine g_getr (j := 3) dX2_insertTurn_63 gc2 rfl (by decide) rfl (by decide) fl_L_18 ?_
          refine g_iload dX2_insertTurn_66 rfl ?_
          refine g_iload_n dX2_insertTurn_68 rfl ?_
          refine g_iast_n dX2_insertTurn_69 (by first | rfl | assumption) (by first | decide | assumption) (by omega) (by omega) ?_
          refine g_return dX2_insertTurn_70 rfl ?_
          refine hdone (i + 1) hi ?_ M' hE hlo hhi
          rw [hp, posN, if_neg (of_decide_eq_false c37)]
        · refine g_aload_n dX2_insertTurn_40 rfl ?_
          refine g_getr (j := 3) dX2_insertTurn_41 gc2 rfl (by decide) rfl (by decide) fl_L_18 ?_
          refine g_iload dX2_insertTurn_44 rfl ?_
          refine g_aload_n dX2_insertTurn_46 rfl ?_
          refine g_getr (j := 3) dX2_insertTurn_47 gc2 rfl (by decide) rfl (by decide) fl_L_18 ?_
          refine g_iload dX2_insertTurn_50 rfl ?_
          refine g_iconst (nI 1) dX2_insertTurn_52 ki_1 ?_
          first | refine g_isub_n dX2_insertTurn_53 (by omega) ?_ | refine g_isub dX2_insertTurn_53 ?_
          refine g_iald_n dX2_insertTurn_54 (by first | rfl | assumption) (by first | decide | assumption) (by omega) (by omega) ?_
          try simp (disch := omega) only [e1]
          refine g_iast_n dX2_insertTurn_55 (by first | rfl | assumption) (by first | decide | assumption) (by omega) (by omega) ?_
          first | refine g_incp5_4 dX2_insertTurn_56 ki_m1 (by omega) (by decide) rfl ?_ | refine g_incg5_4 (-1) dX2_insertTurn_56 ki_m1 (by decide) rfl ?_
          refine g_goto 17 dX2_insertTurn_59 (by decide) ?_
          refine ih (by omega) _ (hE.tr (EqO.set (by decide))) ?_ ?_ ?_
          · intro j hj; rw [mset_off (by omega)]; exact hlo j (by omega)
          · intro j h1 h2
            by_cases e : j = i + 1
            · subst e; rw [mset_at, show i + 1 - 1 = i by omega]
            · rw [mset_off (by omega)]; exact hhi j (by omega) h2
          · rw [hp, posN, if_pos (of_decide_eq_true c37)]
  · exact absurd hn c10
theorem SL_placeOfNext {d : Nat} {M : Mm} {S : BS} {Q : Po} (hB : BK M S) {k u : Nat} (hk : k < 4) (hu : u < cnt (hr S) (S 0 0 0)) (h : ∀ M', EqO [30] M M' → Q M' (some (.int (nI (nxV S k (S 0 0 0) u))))) : Call (d + 7) mL_placeOfNext [.ref 27, .int (nI k), .int (nI u)] M Q := by
  have hw := hB.wf.np
  refine Call_of (m := mL_placeOfNext) [some (.ref 27), some (.int (nI k)), some (.int (nI u)), none, none] rfl (fun G => Nat.le_of_ble_eq_true rfl) (fun G => rfl) ?_
  refine g_iconst (nI 0) dX2_placeOfNext_0 ki_0 ?_
  refine g_ist5_3 dX2_placeOfNext_1 (by decide) rfl ?_
  refine g_iconst (nI 0) dX2_placeOfNext_2 ki_0 ?_
  refine g_ist5_4 dX2_placeOfNext_3 (by decide) rfl ?_
  refine loop_up (P := fun i => ∀ M', EqO [30] M M' → (∀ j, j < cnt (hr S) i → M' 30 j = nI (nxV S k i j)) → Go mL_placeOfNext (d + 7) Q 5 [some (.ref 27), some (.int (nI k)), some (.int (nI u)), some (.int (nI (cnt (hr S) i))), some (.int (nI i))] [] M') (S 0 0 0) ?_ 0 (Nat.zero_le _) M EqO.rf (fun j hj => absurd hj (by rw [cnt]; omega))
  intro i hi ih M' hE hv
  have hB' := hB.eqO hE (by decide)
  have hcl := cnt_le (hr S) i
  refine g_iload dX2_placeOfNext_5 rfl ?_
  refine g_aload_n dX2_placeOfNext_7 rfl ?_
  refine g_getr (j := 0) dX2_placeOfNext_8 gc2 rfl (by decide) rfl (by decide) fl_L_21 ?_
  refine g_geti (j := 0) dX2_placeOfNext_11 gc0 rfl (by decide) rfl (by decide) fl_L_34 ?_
  try simp (disch := omega) only [hB'.np]
  refine g_icmp_ge_n 55 dX2_placeOfNext_14 (by decide) (by omega) (by omega) (fun c14 => ?_) (fun c14 => ?_)
  · rw [show i = S 0 0 0 by omega] at hv hcl ⊢
    skip
    refine g_iload_n dX2_placeOfNext_55 rfl ?_
    refine g_if_lt_n 82 dX2_placeOfNext_56 (by decide) (by omega) ?_
    refine g_iload_n dX2_placeOfNext_59 rfl ?_
    refine g_iload_n dX2_placeOfNext_60 rfl ?_
    refine g_icmp_ge_n 82 dX2_placeOfNext_61 (by decide) (by omega) (by omega) (fun c61 => ?_) (fun c61 => ?_)
    · exact absurd hu (by omega)
    · refine g_iload_n dX2_placeOfNext_64 rfl ?_
      refine g_aload_n dX2_placeOfNext_65 rfl ?_
      refine g_getr (j := 3) dX2_placeOfNext_66 gc2 rfl (by decide) rfl (by decide) fl_L_18 ?_
      refine g_alen dX2_placeOfNext_69 (by first | rfl | assumption) (by first | decide | assumption) ?_
      refine g_icmp_ge_n 82 dX2_placeOfNext_70 (by decide) (by omega) (by omega) (fun c70 => ?_) (fun c70 => ?_)
      · exact absurd hcl (by omega)
      · refine g_aload_n dX2_placeOfNext_73 rfl ?_
        refine g_getr (j := 3) dX2_placeOfNext_74 gc2 rfl (by decide) rfl (by decide) fl_L_18 ?_
        refine g_iload_n dX2_placeOfNext_77 rfl ?_
        refine g_iald_n dX2_placeOfNext_78 (by first | rfl | assumption) (by first | decide | assumption) (by omega) (by omega) ?_
        try simp (disch := omega) only [hv]
        refine g_goto 83 dX2_placeOfNext_79 (by decide) ?_
        refine g_ireturn dX2_placeOfNext_83 rfl (by first | rfl | exact nar_bI _) ?_
        exact h M' hE
  · have hcn : cnt (hr S) i < 8 := by omega
    refine g_iload_n dX2_placeOfNext_17 rfl ?_
    refine g_bipush (nI 8) dX2_placeOfNext_18 kb_8 ?_
    refine g_icmp_ge_n 55 dX2_placeOfNext_20 (by decide) (by omega) (by omega) (fun c20 => ?_) (fun c20 => ?_)
    · exact absurd hcn (by omega)
    · have ih := ih (by omega)
      rw [nxV] at ih
      refine g_aload_n dX2_placeOfNext_23 rfl ?_
      refine g_getr (j := 0) dX2_placeOfNext_24 gc2 rfl (by decide) rfl (by decide) fl_L_21 ?_
      refine g_iload dX2_placeOfNext_27 rfl ?_
      refine g_call1 dX2_placeOfNext_29 clB_isHere ml_L_38 gc0 rfl rfl (by decide) (Nat.le_of_ble_eq_true rfl) ?_
      refine SB_isHere hB' (by omega) ?_
      refine g_if_ne_b 38 dX2_placeOfNext_32 (by decide) (fun c32 => ?_) (fun c32 => ?_)
      · rw [if_pos c32, cnt_t c32] at ih
        refine g_aload_n dX2_placeOfNext_38 rfl ?_
        refine g_iload_n dX2_placeOfNext_39 rfl ?_
        refine g_iload dX2_placeOfNext_40 rfl ?_
        refine g_iload_n dX2_placeOfNext_42 rfl ?_
        refine g_call3 dX2_placeOfNext_43 clL_insertTurn ml_L_50 gc2 rfl rfl (by decide) (Nat.le_of_ble_eq_true rfl) ?_
        refine SL_insertTurn hB' hk (by omega) hcn hv (fun j hj => by have := ((NX_of S k (n := i) (by omega)).1 j hj).1; omega) (fun M2 hE2 hv2 => ?_)
        first | refine g_incn5_3 dX2_placeOfNext_46 ki_1 (by decide) rfl ?_ | refine g_incg5_3 (nI 1) dX2_placeOfNext_46 ki_1 (by decide) rfl ?_
        first | refine g_incn5_4 dX2_placeOfNext_49 ki_1 (by decide) rfl ?_ | refine g_incg5_4 (nI 1) dX2_placeOfNext_49 ki_1 (by decide) rfl ?_
        refine g_goto 5 dX2_placeOfNext_52 (by decide) ?_
        exact ih M2 (hE.tr hE2) hv2
      · rw [if_neg (by rw [c32]; decide), cnt_f c32] at ih
        refine g_goto 49 dX2_placeOfNext_35 (by decide) ?_
        first | refine g_incn5_4 dX2_placeOfNext_49 ki_1 (by decide) rfl ?_ | refine g_incg5_4 (nI 1) dX2_placeOfNext_49 ki_1 (by decide) rfl ?_
        refine g_goto 5 dX2_placeOfNext_52 (by decide) ?_
        exact ih M' hE hv
/-! next in the reference, both -/
def f_next (k i : Int32) (S : BS) : Int32 × BS := (if inR k 4 = true ∧ inR i (cnt (hr S) (S 0 0 0)) = true then nI (nxV S (v2n k) (S 0 0 0) (v2n i)) else -1, S)
theorem SF_next (k i : Int32) (M : Mm) (S : BS) (Q : Po) (hB : BK M S) (hH : HM S) (h : ∀ M', FrC M M' → BK M' (f_next k i S).2 → Q M' (some (.int (f_next k i S).1))) : Call 60 mF_next [.ref 0, .int k, .int i] M Q := by
  have hw := hB.wf.np
  have hcl := cnt_le (hr S) (S 0 0 0)
  unfold f_next at h
  dsimp only at h
  refine Call_of (m := mF_next) [some (.ref 0), some (.int k), some (.int i)] rfl (fun G => Nat.le_of_ble_eq_true rfl) (fun G => rfl) ?_
  refine g_iload_n dX9_next_0 rfl ?_
  refine g_calls1 dX9_next_1 clF_isKind ml_F_106 (Nat.le_of_ble_eq_true rfl) ?_
  refine SF_isKind k ?_
  refine g_if_eq_b 22 dX9_next_4 (by decide) (fun c4 => ?_) (fun c4 => ?_)
  · rw [if_neg (by rw [c4]; simp)] at h
    refine g_iconst ((-1)) dX9_next_22 ki_m1 ?_
    refine g_ireturn dX9_next_23 rfl (by first | rfl | exact nar_bI _) ?_
    exact h M FrC.rf hB
  · obtain ⟨e, he, rfl⟩ := inR_true c4
    rw [v2n_nI (show e < 2 ^ 31 by omega)] at h
    refine g_iload_n dX9_next_7 rfl ?_
    refine g_if_lt 22 dX9_next_8 (by decide) (fun c8 => ?_) (fun c8 => ?_)
    · rw [if_neg (by rw [inR_f1 c8]; simp)] at h
      refine g_iconst ((-1)) dX9_next_22 ki_m1 ?_
      refine g_ireturn dX9_next_23 rfl (by first | rfl | exact nar_bI _) ?_
      exact h M FrC.rf hB
    · refine g_iload_n dX9_next_11 rfl ?_
      refine g_aload_n dX9_next_12 rfl ?_
      refine g_getr (j := 0) dX9_next_13 gc9 rfl (by decide) rfl (by decide) fl_F_13 ?_
      refine g_call0 dX9_next_16 clB_countHere ml_F_102 gc0 rfl rfl (by decide) (Nat.le_of_ble_eq_true rfl) ?_
      refine SB_countHere hB ?_
      refine g_icmp_lt 24 dX9_next_19 (by decide) (fun c19 => ?_) (fun c19 => ?_)
      · have hin : inR i (cnt (hr S) (S 0 0 0)) = true := inR_t1 (by omega) c8 (Int32.not_le.mpr c19)
        rw [if_pos ⟨c4, hin⟩] at h
        obtain ⟨u, hu, rfl⟩ := inR_true hin
        rw [v2n_nI (show u < 2 ^ 31 by omega)] at h
        refine g_aload_n dX9_next_24 rfl ?_
        refine g_getr (j := 3) dX9_next_25 gc9 rfl (by decide) rfl (by decide) fl_F_31 ?_
        refine g_iload_n dX9_next_28 rfl ?_
        refine g_iload_n dX9_next_29 rfl ?_
        refine g_call2 dX9_next_30 clL_placeOfNext ml_F_262 gc2 rfl rfl (by decide) (Nat.le_of_ble_eq_true rfl) ?_
        refine SL_placeOfNext hB he hu (fun M' hE => ?_)
        refine g_ireturn dX9_next_33 rfl (by first | rfl | exact nar_bI _) ?_
        exact h M' (FrC.of hE (by decide)) (hB.eqO hE (by decide))
      · rw [if_neg (by rw [inR_f2 (by omega) (Nat.le_refl _) (Int32.not_lt.mp c19)]; simp)] at h
        refine g_iconst ((-1)) dX9_next_22 ki_m1 ?_
        refine g_ireturn dX9_next_23 rfl (by first | rfl | exact nar_bI _) ?_
        exact h M FrC.rf hB
theorem SM_isAhead {d : Nat} {M : Mm} {S : BS} {Q : Po} (hM : MK (M 58) S) (hC : MC M) {k p q : Nat} (hk : k < 4) (hp : p < S 0 0 0) (hq : q < S 0 0 0) (h : Q M (some (.int (bI (decide (keyN S k p < keyN S k q)))))) : Call (d + 5) mM_isAhead [.ref 57, .int (nI p), .int (nI q), .int (nI k)] M Q := by
  have hw := hM.wf.np
  have l1 := load_le hM.wf hk hp
  have l2 := load_le hM.wf hk hq
  have b1 := burN_le hM.wf (p := p) (by omega)
  have b2 := burN_le hM.wf (p := q) (by omega)
  have hiff : keyN S k p < keyN S k q ↔ loadN S p k < loadN S q k ∨ (loadN S p k = loadN S q k ∧ (burN S p < burN S q ∨ (burN S p = burN S q ∧ p < q))) := by
    unfold keyN lbN
    omega
  refine Call_of (m := mM_isAhead) [some (.ref 57), some (.int (nI p)), some (.int (nI q)), some (.int (nI k))] rfl (fun G => Nat.le_of_ble_eq_true rfl) (fun G => rfl) ?_
  refine g_aload_n dX10_isAhead_0 rfl ?_
  refine g_iload_n dX10_isAhead_1 rfl ?_
  refine g_iload_n dX10_isAhead_2 rfl ?_
  refine g_call2 dX10_isAhead_3 clM_loadOf ml_M_132 gc10 rfl rfl (by decide) (Nat.le_of_ble_eq_true rfl) ?_
  refine SM_loadOf hM hp hk ?_
  refine g_aload_n dX10_isAhead_6 rfl ?_
  refine g_iload_n dX10_isAhead_7 rfl ?_
  refine g_iload_n dX10_isAhead_8 rfl ?_
  refine g_call2 dX10_isAhead_9 clM_loadOf ml_M_132 gc10 rfl rfl (by decide) (Nat.le_of_ble_eq_true rfl) ?_
  refine SM_loadOf hM hq hk ?_
  refine g_icmp_eq_n 36 dX10_isAhead_12 (by decide) (by omega) (by omega) (fun c12 => ?_) (fun c12 => ?_)
  · refine g_aload_n dX10_isAhead_36 rfl ?_
    refine g_iload_n dX10_isAhead_37 rfl ?_
    refine g_call1 dX10_isAhead_38 clM_burden ml_M_122 gc10 rfl rfl (by decide) (Nat.le_of_ble_eq_true rfl) ?_
    refine SM_burden hM hC hp ?_
    refine g_aload_n dX10_isAhead_41 rfl ?_
    refine g_iload_n dX10_isAhead_42 rfl ?_
    refine g_call1 dX10_isAhead_43 clM_burden ml_M_122 gc10 rfl rfl (by decide) (Nat.le_of_ble_eq_true rfl) ?_
    refine SM_burden hM hC hq ?_
    refine g_icmp_eq_n 70 dX10_isAhead_46 (by decide) (by omega) (by omega) (fun c46 => ?_) (fun c46 => ?_)
    · refine g_iload_n dX10_isAhead_70 rfl ?_
      refine g_iload_n dX10_isAhead_71 rfl ?_
      refine g_icmp_ge_n 79 dX10_isAhead_72 (by decide) (by omega) (by omega) (fun c72 => ?_) (fun c72 => ?_)
      · refine g_iconst (nI 0) dX10_isAhead_79 ki_0 ?_
        refine g_ireturn dX10_isAhead_80 rfl (by first | rfl | exact nar_bI _) ?_
        exact qb_f h (decide_eq_false (fun z => by have := hiff.mp z; omega))
      · refine g_iconst (nI 1) dX10_isAhead_75 ki_1 ?_
        refine g_goto 80 dX10_isAhead_76 (by decide) ?_
        refine g_ireturn dX10_isAhead_80 rfl (by first | rfl | exact nar_bI _) ?_
        exact qb_t h (decide_eq_true (hiff.mpr (by omega)))
    · refine g_aload_n dX10_isAhead_49 rfl ?_
      refine g_iload_n dX10_isAhead_50 rfl ?_
      refine g_call1 dX10_isAhead_51 clM_burden ml_M_122 gc10 rfl rfl (by decide) (Nat.le_of_ble_eq_true rfl) ?_
      refine SM_burden hM hC hp ?_
      refine g_aload_n dX10_isAhead_54 rfl ?_
      refine g_iload_n dX10_isAhead_55 rfl ?_
      refine g_call1 dX10_isAhead_56 clM_burden ml_M_122 gc10 rfl rfl (by decide) (Nat.le_of_ble_eq_true rfl) ?_
      refine SM_burden hM hC hq ?_
      refine g_icmp_ge_n 66 dX10_isAhead_59 (by decide) (by omega) (by omega) (fun c59 => ?_) (fun c59 => ?_)
      · refine g_iconst (nI 0) dX10_isAhead_66 ki_0 ?_
        refine g_goto 80 dX10_isAhead_67 (by decide) ?_
        refine g_ireturn dX10_isAhead_80 rfl (by first | rfl | exact nar_bI _) ?_
        exact qb_f h (decide_eq_false (fun z => by have := hiff.mp z; omega))
      · refine g_iconst (nI 1) dX10_isAhead_62 ki_1 ?_
        refine g_goto 80 dX10_isAhead_63 (by decide) ?_
        refine g_ireturn dX10_isAhead_80 rfl (by first | rfl | exact nar_bI _) ?_
        exact qb_t h (decide_eq_true (hiff.mpr (by omega)))
  · refine g_aload_n dX10_isAhead_15 rfl ?_
    refine g_iload_n dX10_isAhead_16 rfl ?_
    refine g_iload_n dX10_isAhead_17 rfl ?_
    refine g_call2 dX10_isAhead_18 clM_loadOf ml_M_132 gc10 rfl rfl (by decide) (Nat.le_of_ble_eq_true rfl) ?_
    refine SM_loadOf hM hp hk ?_
    refine g_aload_n dX10_isAhead_21 rfl ?_
    refine g_iload_n dX10_isAhead_22 rfl ?_
    refine g_iload_n dX10_isAhead_23 rfl ?_
    refine g_call2 dX10_isAhead_24 clM_loadOf ml_M_132 gc10 rfl rfl (by decide) (Nat.le_of_ble_eq_true rfl) ?_
    refine SM_loadOf hM hq hk ?_
    refine g_icmp_ge_n 34 dX10_isAhead_27 (by decide) (by omega) (by omega) (fun c27 => ?_) (fun c27 => ?_)
    · refine g_iconst (nI 0) dX10_isAhead_34 ki_0 ?_
      refine g_ireturn dX10_isAhead_35 rfl (by first | rfl | exact nar_bI _) ?_
      exact qb_f h (decide_eq_false (fun z => by have := hiff.mp z; omega))
    · refine g_iconst (nI 1) dX10_isAhead_30 ki_1 ?_
      refine g_goto 35 dX10_isAhead_31 (by decide) ?_
      refine g_ireturn dX10_isAhead_35 rfl (by first | rfl | exact nar_bI _) ?_
      exact qb_t h (decide_eq_true (hiff.mpr (by omega)))
theorem rnkN_t {S : BS} {k p j : Nat} (h1 : hr S j = true) (h2 : keyN S k j < keyN S k p) : rnkN S k p (j + 1) = rnkN S k p j + 1 := cnt_t (by rw [h1, decide_eq_true h2]; rfl)
theorem rnkN_f {S : BS} {k p j : Nat} (h : hr S j = false ∨ ¬ keyN S k j < keyN S k p) : rnkN S k p (j + 1) = rnkN S k p j := cnt_f (by
  rcases h with h | h
  · rw [h]; rfl
  · rw [decide_eq_false h, Bool.and_false])
theorem SM_next (k i : Int32) (M : Mm) (S : BS) (Q : Po) (hM : MK (M 58) S) (hC : MC M) (hH : HM S) (h : ∀ M', FrM M M' → MK (M' 58) (f_next k i S).2 → Q M' (some (.int (f_next k i S).1))) : Call 60 mM_next [.ref 57, .int k, .int i] M Q := by
  have hw := hM.wf.np
  have hcl := cnt_le (hr S) (S 0 0 0)
  have h2 := h M FrM.rf hM
  clear h
  unfold f_next at h2
  dsimp only at h2
  refine Call_of (m := mM_next) [some (.ref 57), some (.int k), some (.int i), none, none, none] rfl (fun G => Nat.le_of_ble_eq_true rfl) (fun G => rfl) ?_
  refine g_iload_n dX10_next_0 rfl ?_
  refine g_calls1 dX10_next_1 clM_isKind ml_M_117 (Nat.le_of_ble_eq_true rfl) ?_
  refine SM_isKind k ?_
  refine g_if_ne_b 9 dX10_next_4 (by decide) (fun c4 => ?_) (fun c4 => ?_)
  · obtain ⟨e, he, rfl⟩ := inR_true c4
    rw [v2n_nI (show e < 2 ^ 31 by omega)] at h2
    have hNX := NX_of S e (n := S 0 0 0) hw
    refine g_iconst (nI 0) dX10_next_9 ki_0 ?_
    refine g_ist6_3 dX10_next_10 (by decide) rfl ?_
    refine loop_up (P := fun p => (∀ q, q < p → hr S q = true → ¬ nI (rnkN S e q (S 0 0 0)) = i) → Go mM_next 60 Q 11 [some (.ref 57), some (.int (nI e)), some (.int i), some (.int (nI p)), none, none] [] M) (S 0 0 0) ?_ 0 (Nat.zero_le _) (fun q hq => absurd hq (by omega))
    intro p hp ih hno
    refine g_iload_n dX10_next_11 rfl ?_
    refine g_aload_n dX10_next_12 rfl ?_
    refine g_getr (j := 0) dX10_next_13 gc10 rfl (by decide) rfl (by decide) fl_M_9 ?_
    refine g_iconst (nI 0) dX10_next_16 ki_0 ?_
    refine g_iald_n dX10_next_17 (by first | rfl | assumption) (by first | decide | assumption) (by omega) (by omega) ?_
    try simp (disch := omega) only [hM.np]
    refine g_icmp_ge_n 102 dX10_next_18 (by decide) (by omega) (by omega) (fun c18 => ?_) (fun c18 => ?_)
    · have hn : inR i (cnt (hr S) (S 0 0 0)) = false := by
        cases hc : inR i (cnt (hr S) (S 0 0 0)) with
        | false => rfl
        | true =>
          exfalso
          obtain ⟨u, hu, rfl⟩ := inR_true hc
          have hT := hNX.1 u hu
          exact hno _ (by omega) hT.2 (by rw [NX_rank hNX hu])
      rw [if_neg (by rw [hn]; simp)] at h2
      refine g_iconst ((-1)) dX10_next_102 ki_m1 ?_
      refine g_ireturn dX10_next_103 rfl (by first | rfl | exact nar_bI _) ?_
      exact h2
    · have hpn : p < S 0 0 0 := by omega
      refine g_iconst (nI 0) dX10_next_21 ki_0 ?_
      refine g_ist6_4 dX10_next_22 (by decide) rfl ?_
      refine g_iconst (nI 0) dX10_next_24 ki_0 ?_
      refine g_ist6_5 dX10_next_25 (by decide) rfl ?_
      refine loop_up (P := fun j => Go mM_next 60 Q 27 [some (.ref 57), some (.int (nI e)), some (.int i), some (.int (nI p)), some (.int (nI (rnkN S e p j))), some (.int (nI j))] [] M) (S 0 0 0) ?_ 0 (Nat.zero_le _)
      intro j hj jh
      have hrl : rnkN S e p j ≤ j := cnt_le _ _
      refine g_iload dX10_next_27 rfl ?_
      refine g_aload_n dX10_next_29 rfl ?_
      refine g_getr (j := 0) dX10_next_30 gc10 rfl (by decide) rfl (by decide) fl_M_9 ?_
      refine g_iconst (nI 0) dX10_next_33 ki_0 ?_
      refine g_iald_n dX10_next_34 (by first | rfl | assumption) (by first | decide | assumption) (by omega) (by omega) ?_
      try simp (disch := omega) only [hM.np]
      refine g_icmp_ge_n 80 dX10_next_35 (by decide) (by omega) (by omega) (fun c35 => ?_) (fun c35 => ?_)
      · rw [show j = S 0 0 0 by omega]
        skip
        refine g_aload_n dX10_next_80 rfl ?_
        refine g_iload_n dX10_next_81 rfl ?_
        refine g_call1 dX10_next_82 clM_isHere ml_M_100 gc10 rfl rfl (by decide) (Nat.le_of_ble_eq_true rfl) ?_
        refine SM_isHere hM (by omega) ?_
        refine g_if_eq_b 96 dX10_next_85 (by decide) (fun c85 => ?_) (fun c85 => ?_)
        · first | refine g_incn6_3 dX10_next_96 ki_1 (by decide) rfl ?_ | refine g_incg6_3 (nI 1) dX10_next_96 ki_1 (by decide) rfl ?_
          refine g_goto 11 dX10_next_99 (by decide) ?_
          refine Go_sub [some (.ref 57), some (.int (nI e)), some (.int i), some (.int (nI (p + 1))), none, none] (by simp [subL]) (ih hpn (fun q hq hq1 => ?_))
          rcases Nat.lt_or_ge q p with z | z
          · exact hno q z hq1
          · rw [show q = p by omega, c85] at hq1; cases hq1
        · refine g_iload dX10_next_88 rfl ?_
          refine g_iload_n dX10_next_90 rfl ?_
          refine g_icmp_ne 96 dX10_next_91 (by decide) (fun c91 => ?_) (fun c91 => ?_)
          · first | refine g_incn6_3 dX10_next_96 ki_1 (by decide) rfl ?_ | refine g_incg6_3 (nI 1) dX10_next_96 ki_1 (by decide) rfl ?_
            refine g_goto 11 dX10_next_99 (by decide) ?_
            refine Go_sub [some (.ref 57), some (.int (nI e)), some (.int i), some (.int (nI (p + 1))), none, none] (by simp [subL]) (ih hpn (fun q hq hq1 => ?_))
            rcases Nat.lt_or_ge q p with z | z
            · exact hno q z hq1
            · rw [show q = p by omega]; exact c91
          · obtain ⟨u, hu, eu⟩ := NX_sur hNX hpn c85
            have hrk := NX_rank hNX hu
            rw [eu] at hrk
            rw [hrk] at c91
            rw [← c91, if_pos ⟨c4, by rw [inR_nI (by omega)]; exact decide_eq_true hu⟩, v2n_nI (by omega), eu] at h2
            refine g_iload_n dX10_next_94 rfl ?_
            refine g_ireturn dX10_next_95 rfl (by first | rfl | exact nar_bI _) ?_
            exact h2
      · have jh := jh (by omega)
        skip
        refine g_iload dX10_next_38 rfl ?_
        refine g_aload_n dX10_next_40 rfl ?_
        refine g_iload dX10_next_41 rfl ?_
        refine g_call1 dX10_next_43 clM_isHere ml_M_100 gc10 rfl rfl (by decide) (Nat.le_of_ble_eq_true rfl) ?_
        refine SM_isHere hM (by omega) ?_
        refine g_if_eq_b 70 dX10_next_46 (by decide) (fun c46 => ?_) (fun c46 => ?_)
        · rw [rnkN_f (Or.inl c46)] at jh
          refine g_iconst (nI 0) dX10_next_70 ki_0 ?_
          first | refine g_iadd_n dX10_next_71 ?_ | refine g_iadd dX10_next_71 ?_
          refine g_ist6_4 dX10_next_72 (by decide) rfl ?_
          first | refine g_incn6_5 dX10_next_74 ki_1 (by decide) rfl ?_ | refine g_incg6_5 (nI 1) dX10_next_74 ki_1 (by decide) rfl ?_
          refine g_goto 27 dX10_next_77 (by decide) ?_
          exact jh
        · refine g_iload dX10_next_49 rfl ?_
          refine g_iload_n dX10_next_51 rfl ?_
          refine g_icmp_eq_n 70 dX10_next_52 (by decide) (by omega) (by omega) (fun c52 => ?_) (fun c52 => ?_)
          · rw [rnkN_f (Or.inr (by rw [c52]; exact Nat.lt_irrefl _))] at jh
            refine g_iconst (nI 0) dX10_next_70 ki_0 ?_
            first | refine g_iadd_n dX10_next_71 ?_ | refine g_iadd dX10_next_71 ?_
            refine g_ist6_4 dX10_next_72 (by decide) rfl ?_
            first | refine g_incn6_5 dX10_next_74 ki_1 (by decide) rfl ?_ | refine g_incg6_5 (nI 1) dX10_next_74 ki_1 (by decide) rfl ?_
            refine g_goto 27 dX10_next_77 (by decide) ?_
            exact jh
          · refine g_aload_n dX10_next_55 rfl ?_
            refine g_iload dX10_next_56 rfl ?_
            refine g_iload_n dX10_next_58 rfl ?_
            refine g_iload_n dX10_next_59 rfl ?_
            refine g_call3 dX10_next_60 clM_isAhead ml_M_236 gc10 rfl rfl (by decide) (Nat.le_of_ble_eq_true rfl) ?_
            refine SM_isAhead hM hC he (by omega) hpn ?_
            refine g_if_eq_b 70 dX10_next_63 (by decide) (fun c63 => ?_) (fun c63 => ?_)
            · rw [rnkN_f (Or.inr (of_decide_eq_false c63))] at jh
              refine g_iconst (nI 0) dX10_next_70 ki_0 ?_
              first | refine g_iadd_n dX10_next_71 ?_ | refine g_iadd dX10_next_71 ?_
              refine g_ist6_4 dX10_next_72 (by decide) rfl ?_
              first | refine g_incn6_5 dX10_next_74 ki_1 (by decide) rfl ?_ | refine g_incg6_5 (nI 1) dX10_next_74 ki_1 (by decide) rfl ?_
              refine g_goto 27 dX10_next_77 (by decide) ?_
              exact jh
            · rw [rnkN_t c46 (of_decide_eq_true c63)] at jh
              refine g_iconst (nI 1) dX10_next_66 ki_1 ?_
              refine g_goto 71 dX10_next_67 (by decide) ?_
              first | refine g_iadd_n dX10_next_71 ?_ | refine g_iadd dX10_next_71 ?_
              refine g_ist6_4 dX10_next_72 (by decide) rfl ?_
              first | refine g_incn6_5 dX10_next_74 ki_1 (by decide) rfl ?_ | refine g_incg6_5 (nI 1) dX10_next_74 ki_1 (by decide) rfl ?_
              refine g_goto 27 dX10_next_77 (by decide) ?_
              exact jh
  · rw [if_neg (by rw [c4]; simp)] at h2
    refine g_iconst ((-1)) dX10_next_7 ki_m1 ?_
    refine g_ireturn dX10_next_8 rfl (by first | rfl | exact nar_bI _) ?_
    exact h2
theorem both_next (k i : Int32) : Both mF_next mM_next [.int k, .int i] := both_book (f_next k i) (fun M S Q => SF_next k i M S Q) (fun M S Q => SM_next k i M S Q) (fun S hW hH => hH)
/-! feed, clear: the tape grows, is wiped -/
theorem OT.tape {M M' : Mm} {b : Bool} {S' : BS} {n n2 : Nat} {t t2 : Nat → Nat} {pn : Nat} {pf : Nat → Nat} (h : OT M b S' n t pn pf) (hn : n2 ≤ 150) (ht : ∀ i, i < n2 → 1 ≤ t2 i ∧ t2 i ≤ 127) (hk : ∀ k j, okO k j → k ≠ 41 → k ≠ 42 → ¬ (k = 57 ∧ j = 19) → k ≠ 69 → M' k j = M k j) (x1 : M' 41 1 = nI n2) (x2 : ∀ i, i < n2 → M' 42 i = nI (t2 i)) (x3 : M' 57 19 = nI n2) (x4 : ∀ i, i < n2 → M' 69 i = nI (t2 i)) : OT M' b S' n2 t2 pn pf := by
  unfold okO at hk
  obtain ⟨h1, h2, h3, h4, ⟨a1, a2, a3, a4, a5, a6⟩, ⟨b1, b2, b3, b4, b5, b6⟩, c1, c2, c3⟩ := h
  refine ⟨h1, hn, ht, h4, ⟨?_, fun hb => ?_, x1, x2, ?_, fun i hi => ?_⟩, ⟨?_, fun hb => ?_, x3, x4, ?_, fun i hi => ?_⟩, fun l hl => ?_, fun i hi => ?_, ⟨fun j hj => ?_, fun j hj => ?_⟩⟩
  · rw [hk 0 2 (by omega) (by omega) (by omega) (by omega) (by omega)]; exact a1
  · refine (a2 hb).keep (fun k j hr => ?_)
    have hk13 : 1 ≤ k ∧ k ≤ 13 := by unfold relB at hr; omega
    exact hk (k + 13) j (by omega) (by omega) (by omega) (by omega) (by omega)
  · rw [hk 52 1 (by omega) (by omega) (by omega) (by omega) (by omega)]; exact a5
  · rw [hk 53 i (by omega) (by omega) (by omega) (by omega) (by omega)]; exact a6 i hi
  · rw [hk 57 2 (by omega) (by omega) (by omega) (by omega) (by omega)]; exact b1
  · rw [show M' 59 = M 59 from funext (fun j => hk 59 j (by omega) (by omega) (by omega) (by omega) (by omega))]; exact b2 hb
  · rw [hk 57 31 (by omega) (by omega) (by omega) (by omega) (by omega)]; exact b5
  · rw [hk 74 i (by omega) (by omega) (by omega) (by omega) (by omega)]; exact b6 i hi
  · rw [hk 75 l (by omega) (by omega) (by omega) (by omega) (by omega), hk 56 l (by omega) (by omega) (by omega) (by omega) (by omega)]; exact c1 l hl
  · rw [hk 76 i (by omega) (by omega) (by omega) (by omega) (by omega), hk 55 i (by omega) (by omega) (by omega) (by omega) (by omega)]; exact c2 i hi
  · rw [hk 60 j (by omega) (by omega) (by omega) (by omega) (by omega)]; exact c3.1 j hj
  · rw [hk 61 j (by omega) (by omega) (by omega) (by omega) (by omega)]; exact c3.2 j hj
theorem BK.off {M M' : Mm} {S : BS} (h : BK M S) (hk : ∀ k, 1 ≤ k → k ≤ 13 → M' k = M k) : BK M' S := h.keep (fun k j hr => by rw [hk k (by unfold relB at hr; omega) (by unfold relB at hr; omega)])
theorem ST_wipe {d : Nat} {M : Mm} {Q : Po} (h : Q (mset M 41 1 (nI 0)) (some (.int (M 41 1)))) : Call (d + 1) mT_wipe [.ref 41] M Q := by
  refine Call_of (m := mT_wipe) [some (.ref 41), none] rfl (fun G => Nat.le_of_ble_eq_true rfl) (fun G => rfl) ?_
  refine g_aload_n dX7_wipe_0 rfl ?_
  refine g_geti (j := 1) dX7_wipe_1 gc7 rfl (by decide) rfl (by decide) fl_T_15 ?_
  refine g_ist2_1 dX7_wipe_4 (by decide) rfl ?_
  refine g_aload_n dX7_wipe_5 rfl ?_
  refine g_iconst (nI 0) dX7_wipe_6 ki_0 ?_
  refine g_puti (j := 1) dX7_wipe_7 gc7 rfl (by decide) rfl (by decide) fl_T_15 rfl (tyX7_ok 1 (by decide)) (by first | rfl | exact nar_bI _) rfl ?_
  refine g_iload_n dX7_wipe_10 rfl ?_
  refine g_ireturn dX7_wipe_11 rfl (by first | rfl | exact nar_bI _) ?_
  exact h
theorem both_clear : Both mF_clear mM_clear [] := by
  intro M ⟨S, b, S', n, t, pn, pf, h1, h2, h3, h4⟩
  have e1 : M 41 1 = nI n := h4.2.2.2.2.1.2.2.1
  have e2 : M 57 19 = nI n := h4.2.2.2.2.2.1.2.2.1
  refine Call_of (m := mF_clear) [some (.ref 0)] rfl (fun G => Nat.le_of_ble_eq_true rfl) (fun G => rfl) ?_
  refine g_aload_n dX9_clear_0 rfl ?_
  refine g_getr (j := 6) dX9_clear_1 gc9 rfl (by decide) rfl (by decide) fl_F_49 ?_
  refine g_call0 dX9_clear_4 clT_wipe ml_F_158 gc7 rfl rfl (by decide) (Nat.le_of_ble_eq_true rfl) ?_
  refine ST_wipe ?_
  refine g_ireturn dX9_clear_7 rfl (by first | rfl | exact nar_bI _) ?_
  rw [e1]
  refine ⟨IsI.rf, ?_⟩
  refine Call_of (m := mM_clear) [some (.ref 57), none] rfl (fun G => Nat.le_of_ble_eq_true rfl) (fun G => rfl) ?_
  refine g_aload_n dX10_clear_0 rfl ?_
  refine g_geti (j := 19) dX10_clear_1 gc10 rfl (by decide) rfl (by decide) fl_M_245 ?_
  try simp (disch := omega) only [mset_off, e2]
  refine g_ist2_1 dX10_clear_4 (by decide) rfl ?_
  refine g_aload_n dX10_clear_5 rfl ?_
  refine g_iconst (nI 0) dX10_clear_6 ki_0 ?_
  refine g_puti (j := 19) dX10_clear_7 gc10 rfl (by decide) rfl (by decide) fl_M_245 rfl (tyX10_ok 19 (by decide)) (by first | rfl | exact nar_bI _) rfl ?_
  refine g_iload_n dX10_clear_10 rfl ?_
  refine g_ireturn dX10_clear_11 rfl (by first | rfl | exact nar_bI _) ?_
  refine ⟨TyI.rf, S, b, S', 0, t, pn, pf, h1, h2.off (fun k k1 k2 => by rw [mset_ne (by omega), mset_ne (by omega)]), ?_, h4.tape (Nat.zero_le _) (fun i hi => absurd hi (by omega)) (fun k j hk n1 n2 n3 n4 => ?_) ?_ (fun i hi => absurd hi (by omega)) ?_ (fun i hi => absurd hi (by omega))⟩
  · rw [mset_ne (by decide), mset_ne (by decide)]; exact h3
  · rw [mset_off (by omega), mset_off (by omega)]
  · rw [mset_off (by omega), mset_at]
  · rw [mset_at]
/-! feed -/
theorem ST_add {d : Nat} {M : Mm} {Q : Po} {n : Nat} {x : Int32} (e1 : M 41 1 = nI n) (hn : n ≤ 150) (hno : n = 150 → Q M (some (.int (bI false)))) (hyes : n < 150 → Q (mset (mset M 42 n x) 41 1 (nI (n + 1))) (some (.int (bI true)))) : Call (d + 1) mT_add [.ref 41, .int x] M Q := by
  refine Call_of (m := mT_add) [some (.ref 41), some (.int x)] rfl (fun G => Nat.le_of_ble_eq_true rfl) (fun G => rfl) ?_
  refine g_aload_n dX7_add_0 rfl ?_
  refine g_geti (j := 1) dX7_add_1 gc7 rfl (by decide) rfl (by decide) fl_T_15 ?_
  try simp (disch := omega) only [e1, mset_off]
  refine g_if_lt_n 17 dX7_add_4 (by decide) (by omega) ?_
  refine g_aload_n dX7_add_7 rfl ?_
  refine g_geti (j := 1) dX7_add_8 gc7 rfl (by decide) rfl (by decide) fl_T_15 ?_
  try simp (disch := omega) only [e1, mset_off]
  refine g_sipush (nI 150) dX7_add_11 ks_150 ?_
  refine g_icmp_lt_n 19 dX7_add_14 (by decide) (by omega) (by omega) (fun c14 => ?_) (fun c14 => ?_)
  · refine g_aload_n dX7_add_19 rfl ?_
    refine g_getr (j := 0) dX7_add_20 gc7 rfl (by decide) rfl (by decide) fl_T_9 ?_
    refine g_aload_n dX7_add_23 rfl ?_
    refine g_geti (j := 1) dX7_add_24 gc7 rfl (by decide) rfl (by decide) fl_T_15 ?_
    try simp (disch := omega) only [e1, mset_off]
    refine g_iload_n dX7_add_27 rfl ?_
    refine g_iast_n dX7_add_28 (by first | rfl | assumption) (by first | decide | assumption) (by omega) (by omega) ?_
    refine g_aload_n dX7_add_29 rfl ?_
    refine g_dup dX7_add_30 rfl ?_
    refine g_geti (j := 1) dX7_add_31 gc7 rfl (by decide) rfl (by decide) fl_T_15 ?_
    try simp (disch := omega) only [e1, mset_off]
    refine g_iconst (nI 1) dX7_add_34 ki_1 ?_
    first | refine g_iadd_n dX7_add_35 ?_ | refine g_iadd dX7_add_35 ?_
    refine g_puti (j := 1) dX7_add_36 gc7 rfl (by decide) rfl (by decide) fl_T_15 rfl (tyX7_ok 1 (by decide)) (by first | rfl | exact nar_bI _) rfl ?_
    refine g_iconst (nI 1) dX7_add_39 ki_1 ?_
    refine g_ireturn dX7_add_40 rfl (by first | rfl | exact nar_bI _) ?_
    exact hyes c14
  · refine g_iconst (nI 0) dX7_add_17 ki_0 ?_
    refine g_ireturn dX7_add_18 rfl (by first | rfl | exact nar_bI _) ?_
    exact hno (by omega)
theorem ST_size {d : Nat} {M : Mm} {Q : Po} (h : Q M (some (.int (M 41 1)))) : Call (d + 1) mT_size [.ref 41] M Q := by
  refine Call_of (m := mT_size) [some (.ref 41)] rfl (fun G => Nat.le_of_ble_eq_true rfl) (fun G => rfl) ?_
  refine g_aload_n dX7_size_0 rfl ?_
  refine g_geti (j := 1) dX7_size_1 gc7 rfl (by decide) rfl (by decide) fl_T_15 ?_
  refine g_ireturn dX7_size_4 rfl (by first | rfl | exact nar_bI _) ?_
  exact h
theorem SF_feed (x : Int32) (M : Mm) (n : Nat) (Q : Po) (e1 : M 41 1 = nI n) (hn : n ≤ 150) (h0 : ¬ (1 ≤ x.toInt ∧ x.toInt ≤ 127) → Q M (some (.int (-2)))) (h1 : (1 ≤ x.toInt ∧ x.toInt ≤ 127) → n = 150 → Q M (some (.int (-4)))) (h2 : (1 ≤ x.toInt ∧ x.toInt ≤ 127) → n < 150 → Q (mset (mset M 42 n x) 41 1 (nI (n + 1))) (some (.int (nI (n + 1))))) : Call 60 mF_feed [.ref 0, .int x] M Q := by
  refine Call_of (m := mF_feed) [some (.ref 0), some (.int x)] rfl (fun G => Nat.le_of_ble_eq_true rfl) (fun G => rfl) ?_
  refine g_iload_n dX9_feed_0 rfl ?_
  refine g_iconst (nI 1) dX9_feed_1 ki_1 ?_
  refine g_icmp_lt 11 dX9_feed_2 (by decide) (fun c2 => ?_) (fun c2 => ?_)
  · rw [Int32.lt_iff_toInt_lt, nI_toInt (by omega)] at c2
    refine g_bipush ((-2)) dX9_feed_11 kb_m2 ?_
    refine g_ireturn dX9_feed_13 rfl (by first | rfl | exact nar_bI _) ?_
    exact h0 (fun z => by omega)
  · rw [Int32.lt_iff_toInt_lt, nI_toInt (by omega)] at c2
    refine g_iload_n dX9_feed_5 rfl ?_
    refine g_bipush (nI 127) dX9_feed_6 kb_127 ?_
    refine g_icmp_le 14 dX9_feed_8 (by decide) (fun c8 => ?_) (fun c8 => ?_)
    · rw [Int32.le_iff_toInt_le, nI_toInt (by omega)] at c8
      refine g_aload_n dX9_feed_14 rfl ?_
      refine g_getr (j := 6) dX9_feed_15 gc9 rfl (by decide) rfl (by decide) fl_F_49 ?_
      refine g_iload_n dX9_feed_18 rfl ?_
      refine g_call1 dX9_feed_19 clT_add ml_F_268 gc7 rfl rfl (by decide) (Nat.le_of_ble_eq_true rfl) ?_
      refine ST_add e1 hn (fun hz => ?_) (fun hz => ?_)
      · refine g_if_eq_ff 35 dX9_feed_22 (by decide) ?_
        refine g_bipush ((-4)) dX9_feed_35 kb_m4 ?_
        refine g_ireturn dX9_feed_37 rfl (by first | rfl | exact nar_bI _) ?_
        exact h1 ⟨by omega, by omega⟩ hz
      · skip
        refine g_if_eq_tt 35 dX9_feed_22 (by decide) ?_
        refine g_aload_n dX9_feed_25 rfl ?_
        refine g_getr (j := 6) dX9_feed_26 gc9 rfl (by decide) rfl (by decide) fl_F_49 ?_
        refine g_call0 dX9_feed_29 clT_size ml_F_271 gc7 rfl rfl (by decide) (Nat.le_of_ble_eq_true rfl) ?_
        refine ST_size ?_
        refine g_goto 37 dX9_feed_32 (by decide) ?_
        refine g_ireturn dX9_feed_37 rfl (by first | rfl | exact nar_bI _) ?_
        rw [mset_at]
        exact h2 ⟨by omega, by omega⟩ hz
    · rw [Int32.le_iff_toInt_le, nI_toInt (by omega)] at c8
      refine g_bipush ((-2)) dX9_feed_11 kb_m2 ?_
      refine g_ireturn dX9_feed_13 rfl (by first | rfl | exact nar_bI _) ?_
      exact h0 (fun z => by omega)
theorem SM_feed (x : Int32) (M : Mm) (n : Nat) (Q : Po) (e1 : M 57 19 = nI n) (hn : n ≤ 150) (h0 : ¬ (1 ≤ x.toInt ∧ x.toInt ≤ 127) → Q M (some (.int (-2)))) (h1 : (1 ≤ x.toInt ∧ x.toInt ≤ 127) → n = 150 → Q M (some (.int (-4)))) (h2 : (1 ≤ x.toInt ∧ x.toInt ≤ 127) → n < 150 → Q (mset (mset M 69 n x) 57 19 (nI (n + 1))) (some (.int (nI (n + 1))))) : Call 60 mM_feed [.ref 57, .int x] M Q := by
  refine Call_of (m := mM_feed) [some (.ref 57), some (.int x)] rfl (fun G => Nat.le_of_ble_eq_true rfl) (fun G => rfl) ?_
  refine g_iload_n dX10_feed_0 rfl ?_
  refine g_i2l dX10_feed_1 ?_
  refine g_lconst (1) dX10_feed_2 (by decide) ?_
  refine g_ldc2w (127) dX10_feed_3 kl_M_243 ?_
  refine g_calls3 dX10_feed_6 clM_in ml_M_68 (Nat.le_of_ble_eq_true rfl) ?_
  refine SM_in _ _ _ ?_
  have hiff : inJ x.toInt64 1 127 = true ↔ (1 ≤ x.toInt ∧ x.toInt ≤ 127) := by
    unfold inJ
    rw [Int32.toInt_toInt64, show (1 : Int64).toInt = 1 by decide, show (127 : Int64).toInt = 127 by decide]
    exact ⟨fun z => of_decide_eq_true z, fun z => decide_eq_true z⟩
  refine g_if_ne_b 15 dX10_feed_9 (by decide) (fun c9 => ?_) (fun c9 => ?_)
  · have hx := hiff.mp c9
    refine g_aload_n dX10_feed_15 rfl ?_
    refine g_geti (j := 19) dX10_feed_16 gc10 rfl (by decide) rfl (by decide) fl_M_245 ?_
    try simp (disch := omega) only [e1, mset_off, mset_at]
    refine g_sipush (nI 150) dX10_feed_19 ks_150 ?_
    refine g_icmp_ne_n 28 dX10_feed_22 (by decide) (by omega) (by omega) (fun c22 => ?_) (fun c22 => ?_)
    · refine g_aload_n dX10_feed_28 rfl ?_
      refine g_getr (j := 18) dX10_feed_29 gc10 rfl (by decide) rfl (by decide) fl_M_44 ?_
      refine g_aload_n dX10_feed_32 rfl ?_
      refine g_geti (j := 19) dX10_feed_33 gc10 rfl (by decide) rfl (by decide) fl_M_245 ?_
      try simp (disch := omega) only [e1, mset_off, mset_at]
      refine g_iload_n dX10_feed_36 rfl ?_
      refine g_iast_n dX10_feed_37 (by first | rfl | assumption) (by first | decide | assumption) (by omega) (by omega) ?_
      refine g_aload_n dX10_feed_38 rfl ?_
      refine g_dup dX10_feed_39 rfl ?_
      refine g_geti (j := 19) dX10_feed_40 gc10 rfl (by decide) rfl (by decide) fl_M_245 ?_
      try simp (disch := omega) only [e1, mset_off, mset_at]
      refine g_iconst (nI 1) dX10_feed_43 ki_1 ?_
      first | refine g_iadd_n dX10_feed_44 ?_ | refine g_iadd dX10_feed_44 ?_
      refine g_puti (j := 19) dX10_feed_45 gc10 rfl (by decide) rfl (by decide) fl_M_245 rfl (tyX10_ok 19 (by decide)) (by first | rfl | exact nar_bI _) rfl ?_
      refine g_aload_n dX10_feed_48 rfl ?_
      refine g_geti (j := 19) dX10_feed_49 gc10 rfl (by decide) rfl (by decide) fl_M_245 ?_
      try simp (disch := omega) only [e1, mset_off, mset_at]
      refine g_ireturn dX10_feed_52 rfl (by first | rfl | exact nar_bI _) ?_
      exact h2 hx (by omega)
    · refine g_bipush ((-4)) dX10_feed_25 kb_m4 ?_
      refine g_ireturn dX10_feed_27 rfl (by first | rfl | exact nar_bI _) ?_
      exact h1 hx c22
  · refine g_bipush ((-2)) dX10_feed_12 kb_m2 ?_
    refine g_ireturn dX10_feed_14 rfl (by first | rfl | exact nar_bI _) ?_
    exact h0 (fun z => by rw [hiff.mpr z] at c9; cases c9)
theorem both_feed (x : Int32) : Both mF_feed mM_feed [.int x] := by
  intro M hI
  have hI0 := hI
  obtain ⟨S, b, S', n, t, pn, pf, h1, h2, h3, h4⟩ := hI
  have e1 : M 41 1 = nI n := h4.2.2.2.2.1.2.2.1
  have e2 : M 57 19 = nI n := h4.2.2.2.2.2.1.2.2.1
  have hn : n ≤ 150 := h4.2.1
  have ht := h4.2.2.1
  have a4 : ∀ i, i < n → M 42 i = nI (t i) := h4.2.2.2.2.1.2.2.2.1
  have b4 : ∀ i, i < n → M 69 i = nI (t i) := h4.2.2.2.2.2.1.2.2.2.1
  refine SF_feed x M n _ e1 hn (fun z => ?_) (fun z zn => ?_) (fun z zn => ?_)
  · refine ⟨IsI.rf, ?_⟩
    exact SM_feed x M n _ e2 hn (fun _ => ⟨TyI.rf, hI0⟩) (fun y _ => absurd y z) (fun y _ => absurd y z)
  · refine ⟨IsI.rf, ?_⟩
    exact SM_feed x M n _ e2 hn (fun y => absurd z y) (fun _ _ => ⟨TyI.rf, hI0⟩) (fun _ w => absurd w (by omega))
  · have hx : inR x 128 = true := decide_eq_true ⟨by omega, by omega⟩
    obtain ⟨u, hu, rfl⟩ := inR_true hx
    rw [nI_toInt (by omega)] at z
    have hu1 : 1 ≤ u ∧ u ≤ 127 := by omega
    refine ⟨IsI.rf, ?_⟩
    refine SM_feed (nI u) _ n _ (by rw [mset_off (by omega), mset_off (by omega)]; exact e2) hn (fun y => absurd (by rw [nI_toInt (by omega)]; omega) y) (fun _ w => absurd w (by omega)) (fun _ _ => ?_)
    refine ⟨TyI.rf, S, b, S', n + 1, fun i => if i = n then u else t i, pn, pf, h1, h2.off (fun k k1 k2 => by rw [mset_ne (by omega), mset_ne (by omega), mset_ne (by omega), mset_ne (by omega)]), ?_, h4.tape (by omega) (fun i hi => ?_) (fun k j hk n1 n2 n3 n4 => ?_) ?_ (fun i hi => ?_) ?_ (fun i hi => ?_)⟩
    · rw [mset_ne (by decide), mset_ne (by decide), mset_ne (by decide), mset_ne (by decide)]; exact h3
    · split
      · exact hu1
      · exact ht i (by omega)
    · rw [mset_off (by omega), mset_off (by omega), mset_off (by omega), mset_off (by omega)]
    · rw [mset_off (by omega), mset_off (by omega), mset_at]
    · rw [mset_off (by omega), mset_off (by omega), mset_off (by omega)]
      by_cases e : i = n
      · subst e; rw [mset_at, if_pos rfl]
      · rw [mset_off (by omega), if_neg e]; exact a4 i (by omega)
    · rw [mset_at]
    · rw [mset_off (by omega)]
      by_cases e : i = n
      · subst e; rw [mset_at, if_pos rfl]
      · rw [mset_off (by omega), mset_off (by omega), mset_off (by omega), if_neg e]; exact b4 i (by omega)
