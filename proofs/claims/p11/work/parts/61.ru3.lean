/-! rules given: the state, the class -/
def adR (S : BS) (p : Nat) (f : Nat → RU) (k : Nat) : BS := fun a b c =>
  if b = p ∧ a = 6 ∧ c = 0 then S 6 p 0 + k
  else if b = p ∧ a = 7 ∧ S 6 p 0 ≤ c ∧ c < S 6 p 0 + k then (f (c - S 6 p 0)).1
  else if b = p ∧ a = 8 ∧ S 6 p 0 ≤ c ∧ c < S 6 p 0 + k then (f (c - S 6 p 0)).2.1
  else if b = p ∧ a = 9 ∧ S 6 p 0 ≤ c ∧ c < S 6 p 0 + k then (f (c - S 6 p 0)).2.2
  else S a b c
theorem adR_oth {S : BS} {p : Nat} {f : Nat → RU} {k a : Nat} (h : ¬ (6 ≤ a ∧ a ≤ 9)) : adR S p f k a = S a := by
  funext b c
  unfold adR
  rw [if_neg (by omega), if_neg (by omega), if_neg (by omega), if_neg (by omega)]
theorem adR_off {S : BS} {p : Nat} {f : Nat → RU} {k a b c : Nat} (h : b ≠ p) : adR S p f k a b c = S a b c := by
  unfold adR
  rw [if_neg (fun z => h z.1), if_neg (fun z => h z.1), if_neg (fun z => h z.1), if_neg (fun z => h z.1)]
theorem adR_6 (S : BS) (p : Nat) (f : Nat → RU) (k : Nat) : adR S p f k 6 p 0 = S 6 p 0 + k := by
  unfold adR
  rw [if_pos ⟨rfl, rfl, rfl⟩]
theorem adR_old {S : BS} {p : Nat} {f : Nat → RU} {k a c : Nat} (ha : a ≠ 6) (h : ¬ (S 6 p 0 ≤ c ∧ c < S 6 p 0 + k)) : adR S p f k a p c = S a p c := by
  unfold adR
  rw [if_neg (fun z => ha z.2.1), if_neg (fun z => h z.2.2), if_neg (fun z => h z.2.2), if_neg (fun z => h z.2.2)]
theorem adR_7 {S : BS} {p : Nat} {f : Nat → RU} {k c : Nat} (h : S 6 p 0 ≤ c ∧ c < S 6 p 0 + k) : adR S p f k 7 p c = (f (c - S 6 p 0)).1 := by
  unfold adR
  rw [if_neg (by omega), if_pos ⟨rfl, rfl, h⟩]
theorem adR_8 {S : BS} {p : Nat} {f : Nat → RU} {k c : Nat} (h : S 6 p 0 ≤ c ∧ c < S 6 p 0 + k) : adR S p f k 8 p c = (f (c - S 6 p 0)).2.1 := by
  unfold adR
  rw [if_neg (by omega), if_neg (by omega), if_pos ⟨rfl, rfl, h⟩]
theorem adR_9 {S : BS} {p : Nat} {f : Nat → RU} {k c : Nat} (h : S 6 p 0 ≤ c ∧ c < S 6 p 0 + k) : adR S p f k 9 p c = (f (c - S 6 p 0)).2.2 := by
  unfold adR
  rw [if_neg (by omega), if_neg (by omega), if_neg (by omega), if_pos ⟨rfl, rfl, h⟩]
theorem adR_0 (S : BS) (p : Nat) (f : Nat → RU) : adR S p f 0 = S := by
  funext a b c
  unfold adR
  by_cases z : b = p ∧ a = 6 ∧ c = 0
  · rw [if_pos z]
    obtain ⟨rfl, rfl, rfl⟩ := z
    rfl
  · rw [if_neg z, if_neg (by omega), if_neg (by omega), if_neg (by omega)]
theorem adR_wf {S : BS} (hW : WF S) {p : Nat} {f : Nat → RU} {k : Nat} (hp : p < S 0 0 0) (hk : S 6 p 0 + k ≤ 8) (hv : ∀ j, j < k → ruOK (f j)) : WF (adR S p f k) := by
  obtain ⟨b1, b2, b3, b4, b5, b6, b7, b8, b9, b10, b11⟩ := hW
  have o := fun (a : Nat) (h : ¬ (6 ≤ a ∧ a ≤ 9)) => adR_oth (S := S) (p := p) (f := f) (k := k) h
  simp only [WF, o 0 (by omega), o 1 (by omega), o 3 (by omega), o 4 (by omega), o 5 (by omega), o 10 (by omega), o 11 (by omega), o 12 (by omega), o 13 (by omega)]
  refine ⟨b1, b2, b3, b4, b5, b6, fun q hq => ?_, fun q r hq hr => ?_, b9, b10, b11⟩
  · by_cases e : q = p
    · subst e; rw [adR_6]; exact hk
    · rw [adR_off e]; exact b7 q hq
  · by_cases e : q = p
    · subst e
      by_cases z : S 6 q 0 ≤ r ∧ r < S 6 q 0 + k
      · rw [adR_7 z, adR_8 z, adR_9 z]
        exact hv _ (by omega)
      · rw [adR_old (by decide) z, adR_old (by decide) z, adR_old (by decide) z]; exact b8 q r hq hr
    · rw [adR_off e, adR_off e, adR_off e]; exact b8 q r hq hr
theorem BKadR {M M' : Mm} {S : BS} (hB : BK M S) {p : Nat} {f : Nat → RU} {k : Nat} (hp : p < S 0 0 0) (hk : S 6 p 0 + k ≤ 8) (hv : ∀ j, j < k → ruOK (f j)) (h6 : M' 6 p = nI (S 6 p 0 + k)) (h7 : ∀ j, j < k → M' 7 (p * 8 + (S 6 p 0 + j)) = nI (f j).1 ∧ M' 8 (p * 8 + (S 6 p 0 + j)) = nI (f j).2.1 ∧ M' 9 (p * 8 + (S 6 p 0 + j)) = nI (f j).2.2)
    (hkp : ∀ a c, ¬ (a = 6 ∧ c = p) → ¬ ((a = 7 ∨ a = 8 ∨ a = 9) ∧ p * 8 + S 6 p 0 ≤ c ∧ c < p * 8 + S 6 p 0 + k) → M' a c = M a c) : BK M' (adR S p f k) := by
  have o := fun (a : Nat) (h : ¬ (6 ≤ a ∧ a ≤ 9)) => adR_oth (S := S) (p := p) (f := f) (k := k) h
  have hsd : ∀ j, sd (adR S p f k) j = sd S j := fun j => by simp only [sd, o 1 (by omega), o 10 (by omega)]
  have hnp := hB.wf.np
  have hnr8 := fun q (hq : q < S 0 0 0) => hB.wf.nr (p := q) (by omega)
  refine ⟨adR_wf hB.wf hp hk hv, ?_, ?_, ?_, fun d hd => ?_, fun q hq => ?_, fun q hq => ?_, fun q j hq hj => ?_, fun q hq => ?_, fun q r hq hr => ?_, fun d hd => ?_, fun q d hq hd => ?_⟩
  · rw [hkp 1 0 (by omega) (by omega), o 0 (by omega)]; exact hB.np
  · rw [hkp 1 1 (by omega) (by omega), o 1 (by omega)]; exact hB.nd
  · rw [hkp 1 2 (by omega) (by omega), o 2 (by omega)]; exact hB.yr
  · rw [o 1 (by omega)] at hd
    rw [hkp 2 d (by omega) (by omega), o 12 (by omega)]; exact hB.ho hd
  · rw [o 0 (by omega)] at hq
    rw [hkp 3 q (by omega) (by omega), o 3 (by omega)]; exact hB.rk hq
  · rw [hkp 4 q (by omega) (by omega)]
    unfold hr
    rw [o 4 (by omega)]; exact hB.here hq
  · rw [o 0 (by omega)] at hq
    rw [hkp 5 _ (by omega) (by omega), o 5 (by omega)]; exact hB.ps hq hj
  · rw [o 0 (by omega)] at hq
    by_cases e : q = p
    · subst e; rw [adR_6]; exact h6
    · rw [adR_off e, hkp 6 q (by omega) (by omega)]; exact hB.nr hq
  · rw [o 0 (by omega)] at hq
    have hq8 := hnr8 q hq
    by_cases e : q = p
    · subst e
      rw [adR_6] at hr
      by_cases z : S 6 q 0 ≤ r ∧ r < S 6 q 0 + k
      · rw [adR_7 z, adR_8 z, adR_9 z]
        obtain ⟨y1, y2, y3⟩ := h7 (r - S 6 q 0) (by omega)
        rw [show S 6 q 0 + (r - S 6 q 0) = r by omega] at y1 y2 y3
        exact ⟨y1, y2, fun _ => y3⟩
      · rw [adR_old (by decide) z, adR_old (by decide) z, adR_old (by decide) z, hkp 7 _ (by omega) (by omega), hkp 8 _ (by omega) (by omega), hkp 9 _ (by omega) (by omega)]
        exact ⟨hB.rs hq (by omega), hB.ra hq (by omega), hB.rb hq (by omega)⟩
    · rw [adR_off e] at hr
      rw [adR_off e, adR_off e, adR_off e, hkp 7 _ (by omega) (by omega), hkp 8 _ (by omega) (by omega), hkp 9 _ (by omega) (by omega)]
      exact ⟨hB.rs hq hr, hB.ra hq hr, hB.rb hq hr⟩
  · rw [o 1 (by omega)] at hd
    rw [hsd, hkp 10 d (by omega) (by omega), hkp 11 d (by omega) (by omega), hkp 12 d (by omega) (by omega), o 10 (by omega), o 11 (by omega)]
    exact ⟨hB.dy hd, hB.kd hd, hB.st hd⟩
  · rw [o 0 (by omega)] at hq
    rw [hkp 13 _ (by omega) (by omega), o 13 (by omega)]; exact hB.dl hq hd
abbrev gR (l : List RU) : Nat → RU := fun j => l.getD j z3
theorem gR_ok {l : List RU} (h : ∀ x ∈ l, ruOK x) {j : Nat} (hj : j < l.length) : ruOK (gR l j) := by
  refine h _ ?_
  show l.getD j z3 ∈ l
  rw [List.getD_eq_getElem?_getD, List.getElem?_eq_getElem hj]
  exact List.getElem_mem hj
theorem SX_giveRules {d : Nat} {M : Mm} {S : BS} {Q : Po} {p : Nat} {l : List RU} (hB : BK M S) (hp : p < S 0 0 0) (hl : S 6 p 0 + l.length ≤ 8) (hv : ∀ x ∈ l, ruOK x) (hc : M 43 8 = nI l.length) (hR : RWl M l) (h : ∀ M', EqO [6, 7, 8, 9] M M' → BK M' (adR S p (gR l) l.length) → Q M' (some (.int (nI l.length)))) : Call (d + 4) mX_giveRules [.ref 43, .int (nI p)] M Q := by
  have hw := hB.wf.np
  refine Call_of (m := mX_giveRules) [some (.ref 43), some (.int (nI p)), none] rfl (fun G => Nat.le_of_ble_eq_true rfl) (fun G => rfl) ?_
  refine g_iconst (nI 0) dX8_giveRules_0 ki_0 ?_
  refine g_ist3_2 dX8_giveRules_1 (by decide) rfl ?_
  refine loop_up (P := fun i => ∀ M', EqO [6, 7, 8, 9] M M' → M' 6 p = nI (S 6 p 0 + i) → (∀ j, j < i → M' 7 (p * 8 + (S 6 p 0 + j)) = nI (gR l j).1 ∧ M' 8 (p * 8 + (S 6 p 0 + j)) = nI (gR l j).2.1 ∧ M' 9 (p * 8 + (S 6 p 0 + j)) = nI (gR l j).2.2) → (∀ a c, ¬ (a = 6 ∧ c = p) → ¬ ((a = 7 ∨ a = 8 ∨ a = 9) ∧ p * 8 + S 6 p 0 ≤ c ∧ c < p * 8 + S 6 p 0 + i) → M' a c = M a c) → Go mX_giveRules (d + 4) Q 2 [some (.ref 43), some (.int (nI p)), some (.int (nI i))] [] M') l.length ?_ 0 (Nat.zero_le _) M EqO.rf (hB.nr hp) (fun j hj => absurd hj (by omega)) (fun _ _ _ _ => rfl)
  intro i hi ih M' hE h6 h7 hkp
  have hB' := BKadR hB hp (by omega) (fun j hj => gR_ok hv (j := j) (by omega)) h6 h7 hkp
  have e0 : adR S p (gR l) i 0 0 0 = S 0 0 0 := by rw [adR_oth (by omega)]
  have hc' : M' 43 8 = nI l.length := by rw [hE 43 (by decide)]; exact hc
  refine g_iload_n dX8_giveRules_2 rfl ?_
  refine g_aload_n dX8_giveRules_3 rfl ?_
  refine g_geti (j := 8) dX8_giveRules_4 gc8 rfl (by decide) rfl (by decide) fl_X_38 ?_
  try simp (disch := omega) only [hc']
  refine g_icmp_ge_n 48 dX8_giveRules_7 (by decide) (by omega) (by omega) (fun c7 => ?_) (fun c7 => ?_)
  · refine g_aload_n dX8_giveRules_48 rfl ?_
    refine g_geti (j := 8) dX8_giveRules_49 gc8 rfl (by decide) rfl (by decide) fl_X_38 ?_
    try simp (disch := omega) only [hc']
    refine g_ireturn dX8_giveRules_52 rfl (by first | rfl | exact nar_bI _) ?_
    rw [show i = l.length by omega] at hB'
    exact h M' hE hB'
  · refine g_iload_n dX8_giveRules_10 rfl ?_
    refine g_bipush (nI 8) dX8_giveRules_11 kb_8 ?_
    refine g_icmp_ge_n 48 dX8_giveRules_13 (by decide) (by omega) (by omega) (fun c13 => ?_) (fun c13 => ?_)
    · exact absurd hl (by omega)
    · obtain ⟨r1, r2, r3⟩ := hR i (by omega)
      have s1 : M' 44 i = nI (gR l i).1 := by rw [hE 44 (by decide)]; exact r1
      have s2 : M' 45 i = nI (gR l i).2.1 := by rw [hE 45 (by decide)]; exact r2
      have s3 : M' 46 i = nI (gR l i).2.2 := by rw [hE 46 (by decide)]; exact r3
      refine g_aload_n dX8_giveRules_16 rfl ?_
      refine g_getr (j := 0) dX8_giveRules_17 gc8 rfl (by decide) rfl (by decide) fl_X_30 ?_
      refine g_iload_n dX8_giveRules_20 rfl ?_
      refine g_aload_n dX8_giveRules_21 rfl ?_
      refine g_getr (j := 2) dX8_giveRules_22 gc8 rfl (by decide) rfl (by decide) fl_X_9 ?_
      refine g_iload_n dX8_giveRules_25 rfl ?_
      refine g_iald_n dX8_giveRules_26 (by first | rfl | assumption) (by first | decide | assumption) (by omega) (by omega) ?_
      try simp (disch := omega) only [s1, s2, s3]
      refine g_aload_n dX8_giveRules_27 rfl ?_
      refine g_getr (j := 3) dX8_giveRules_28 gc8 rfl (by decide) rfl (by decide) fl_X_15 ?_
      refine g_iload_n dX8_giveRules_31 rfl ?_
      refine g_iald_n dX8_giveRules_32 (by first | rfl | assumption) (by first | decide | assumption) (by omega) (by omega) ?_
      try simp (disch := omega) only [s1, s2, s3]
      refine g_aload_n dX8_giveRules_33 rfl ?_
      refine g_getr (j := 4) dX8_giveRules_34 gc8 rfl (by decide) rfl (by decide) fl_X_18 ?_
      refine g_iload_n dX8_giveRules_37 rfl ?_
      refine g_iald_n dX8_giveRules_38 (by first | rfl | assumption) (by first | decide | assumption) (by omega) (by omega) ?_
      try simp (disch := omega) only [s1, s2, s3]
      refine g_call4 dX8_giveRules_39 clB_addRule ml_X_85 gc0 rfl rfl (by decide) (Nat.le_of_ble_eq_true rfl) ?_
      refine SB_addRule hB' (by rw [e0]; exact hp) (by rw [adR_6]; omega) ?_
      rw [adR_6]
      first | refine g_incn3_2 dX8_giveRules_42 ki_1 (by decide) rfl ?_ | refine g_incg3_2 (nI 1) dX8_giveRules_42 ki_1 (by decide) rfl ?_
      refine g_goto 2 dX8_giveRules_45 (by decide) ?_
      refine ih (by omega) _ (hE.tr ((((EqO.set (by decide)).tr (EqO.set (by decide))).tr (EqO.set (by decide))).tr (EqO.set (by decide)))) ?_ (fun j hj => ?_) (fun a c n1 n2 => ?_)
      · rw [mset_at]; rfl
      · by_cases e : j = i
        · subst e
          refine ⟨?_, ?_, ?_⟩
          · rw [mset_off (by omega), mset_off (by omega), mset_off (by omega), mset_at]
          · rw [mset_off (by omega), mset_off (by omega), mset_at]
          · rw [mset_off (by omega), mset_at]
        · obtain ⟨y1, y2, y3⟩ := h7 j (by omega)
          refine ⟨?_, ?_, ?_⟩
          · rw [mset_off (by omega), mset_off (by omega), mset_off (by omega), mset_off (by omega)]; exact y1
          · rw [mset_off (by omega), mset_off (by omega), mset_off (by omega), mset_off (by omega)]; exact y2
          · rw [mset_off (by omega), mset_off (by omega), mset_off (by omega), mset_off (by omega)]; exact y3
      · rw [mset_off (by omega), mset_off (by omega), mset_off (by omega), mset_off (by omega)]
        exact hkp a c n1 (by omega)
def f_rules (x : Int32) (S : BS) (n : Nat) (t : Nat → Nat) : Int32 × BS × Bool :=
  if inR x (S 0 0 0) = true then
    (if hr S (v2n x) = true then (clV (nI (rsP n t (8 - S 6 (v2n x) 0) (.inl 0) []).2.length) (rsP n t (8 - S 6 (v2n x) 0) (.inl 0) []).1, if okB (rsP n t (8 - S 6 (v2n x) 0) (.inl 0) []).1 = true then opnI (adR S (v2n x) (gR (rsP n t (8 - S 6 (v2n x) 0) (.inl 0) []).2) (rsP n t (8 - S 6 (v2n x) 0) (.inl 0) []).2.length) (v2n x) (S 1 0 0) else S, false) else (-3, S, true))
  else (-1, S, true)
theorem SF_faultAnswer {d : Nat} {n : Nat} {t : Nat → Nat} {M : Mm} {Q : Po} {f : Nat} (hT : TC n t M (.inr f)) (h : Q (mset M 41 1 (nI 0)) (some (.int (-100 - nI f)))) : Call (d + 2) mF_faultAnswer [.ref 0] M Q := by
  have e3 : M 41 3 = nI f := hT.2.2.1
  refine Call_of (m := mF_faultAnswer) [some (.ref 0), none] rfl (fun G => Nat.le_of_ble_eq_true rfl) (fun G => rfl) ?_
  refine g_bipush ((-100)) dX9_faultAnswer_0 kb_m100 ?_
  refine g_aload_n dX9_faultAnswer_2 rfl ?_
  refine g_getr (j := 6) dX9_faultAnswer_3 gc9 rfl (by decide) rfl (by decide) fl_F_49 ?_
  refine g_call0 dX9_faultAnswer_6 clT_fault ml_F_337 gc7 rfl rfl (by decide) (Nat.le_of_ble_eq_true rfl) ?_
  refine ST_fault ?_
  rw [e3]
  refine g_isub dX9_faultAnswer_9 ?_
  refine g_ist2_1 dX9_faultAnswer_10 (by decide) rfl ?_
  refine g_aload_n dX9_faultAnswer_11 rfl ?_
  refine g_getr (j := 6) dX9_faultAnswer_12 gc9 rfl (by decide) rfl (by decide) fl_F_49 ?_
  refine g_call0 dX9_faultAnswer_15 clT_wipe ml_F_158 gc7 rfl rfl (by decide) (Nat.le_of_ble_eq_true rfl) ?_
  refine ST_wipe ?_
  refine g_pop dX9_faultAnswer_18 rfl ?_
  refine g_iload_n dX9_faultAnswer_19 rfl ?_
  refine g_ireturn dX9_faultAnswer_20 rfl (by first | rfl | exact nar_bI _) ?_
  exact h
theorem SF_rules (x : Int32) (M : Mm) (S : BS) (n : Nat) (t : Nat → Nat) (Q : Po) (hB : BK M S) (hH : HM S) (hT : TPc n t M) (h : ∀ M', FxC M M' → BK M' (f_rules x S n t).2.1 → M' 41 1 = (if (f_rules x S n t).2.2 = true then nI n else nI 0) → Q M' (some (.int (f_rules x S n t).1))) : Call 60 mF_rules [.ref 0, .int x] M Q := by
  have hw := hB.wf.np
  unfold f_rules at h
  refine Call_of (m := mF_rules) [some (.ref 0), some (.int x), none] rfl (fun G => Nat.le_of_ble_eq_true rfl) (fun G => rfl) ?_
  refine g_aload_n dX9_rules_0 rfl ?_
  refine g_getr (j := 0) dX9_rules_1 gc9 rfl (by decide) rfl (by decide) fl_F_13 ?_
  refine g_iload_n dX9_rules_4 rfl ?_
  refine g_call1 dX9_rules_5 clB_isOne ml_F_91 gc0 rfl rfl (by decide) (Nat.le_of_ble_eq_true rfl) ?_
  refine SB_isOne hB x ?_
  refine g_if_ne_b 13 dX9_rules_8 (by decide) (fun c8 => ?_) (fun c8 => ?_)
  · obtain ⟨p, hp, rfl⟩ := inR_true c8
    rw [if_pos c8, v2n_nI (show p < 2 ^ 31 by omega)] at h
    have hr8 := hB.wf.nr (p := p) (by omega)
    refine g_aload_n dX9_rules_13 rfl ?_
    refine g_getr (j := 0) dX9_rules_14 gc9 rfl (by decide) rfl (by decide) fl_F_13 ?_
    refine g_iload_n dX9_rules_17 rfl ?_
    refine g_call1 dX9_rules_18 clB_isHere ml_F_95 gc0 rfl rfl (by decide) (Nat.le_of_ble_eq_true rfl) ?_
    refine SB_isHere hB (by omega) ?_
    refine g_if_ne_b 27 dX9_rules_21 (by decide) (fun c21 => ?_) (fun c21 => ?_)
    · rw [if_pos c21] at h
      dsimp only at h
      refine g_aload_n dX9_rules_27 rfl ?_
      refine g_getr (j := 7) dX9_rules_28 gc9 rfl (by decide) rfl (by decide) fl_F_58 ?_
      refine g_iload_n dX9_rules_31 rfl ?_
      refine g_call1 dX9_rules_32 clX_readRules ml_F_142 gc8 rfl rfl (by decide) (Nat.le_of_ble_eq_true rfl) ?_
      refine SX_readRules hB hp hT (fun M1 hE1 hT1 hv1 => ?_)
      have hB1 : BK M1 S := hB.eqO hE1 (by decide)
      generalize hrs : rsP n t (8 - S 6 p 0) (.inl 0) [] = r at h hT1 hv1
      refine g_aload_n dX9_rules_35 rfl ?_
      refine g_getr (j := 6) dX9_rules_36 gc9 rfl (by decide) rfl (by decide) fl_F_49 ?_
      refine g_call0 dX9_rules_39 clT_isFaulty ml_F_145 gc7 rfl rfl (by decide) (Nat.le_of_ble_eq_true rfl) ?_
      refine ST_isFaulty hT1 ?_
      by_cases hok : okB r.1 = true
      · obtain ⟨v1, v2, v3⟩ := rsP_ok (n := n) (t := t) (r := 8 - S 6 p 0) (q := .inl 0) (l := []) (fun x hx => absurd hx (by simp)) (by rw [hrs]; exact hok)
        rw [hrs] at v1 v2
        obtain ⟨u1, u2⟩ := hv1 hok
        rw [if_pos hok] at h
        rw [hok]
        refine g_if_eq_ff 50 dX9_rules_42 (by decide) ?_
        refine g_aload_n dX9_rules_50 rfl ?_
        refine g_getr (j := 7) dX9_rules_51 gc9 rfl (by decide) rfl (by decide) fl_F_58 ?_
        refine g_iload_n dX9_rules_54 rfl ?_
        refine g_call1 dX9_rules_55 clX_giveRules ml_F_152 gc8 rfl rfl (by decide) (Nat.le_of_ble_eq_true rfl) ?_
        refine SX_giveRules hB1 hp (by simp at v2; omega) v1 u1 u2 (fun M2 hE2 hB2 => ?_)
        refine g_ist3_2 dX9_rules_58 (by decide) rfl ?_
        refine g_aload_n dX9_rules_59 rfl ?_
        refine g_getr (j := 0) dX9_rules_60 gc9 rfl (by decide) rfl (by decide) fl_F_13 ?_
        refine g_iload_n dX9_rules_63 rfl ?_
        refine g_call1 dX9_rules_64 clB_openWhatMayNotBeHeldBy ml_F_155 gc0 rfl rfl (by decide) (Nat.le_of_ble_eq_true rfl) ?_
        have e1 : adR S p (gR r.2) r.2.length 1 0 0 = S 1 0 0 := by rw [adR_oth (by omega)]
        refine SB_openWhat hB2 (by omega) (fun M3 hE3 hB3 => ?_)
        rw [e1] at hB3
        refine g_aload_n dX9_rules_67 rfl ?_
        refine g_getr (j := 6) dX9_rules_68 gc9 rfl (by decide) rfl (by decide) fl_F_49 ?_
        refine g_call0 dX9_rules_71 clT_wipe ml_F_158 gc7 rfl rfl (by decide) (Nat.le_of_ble_eq_true rfl) ?_
        refine ST_wipe ?_
        refine g_pop dX9_rules_74 rfl ?_
        refine g_iload_n dX9_rules_75 rfl ?_
        refine g_ireturn dX9_rules_76 rfl (by first | rfl | exact nar_bI _) ?_
        obtain ⟨q, r2⟩ := r
        cases q with
        | inl a =>
          refine h (mset M3 41 1 (nI 0)) (FxC.of (L := [2, 6, 7, 8, 9, 41, 43, 44, 45, 46]) ((hE1.sub (by decide)).tr ((hE2.sub (by decide)).tr ((hE3.sub (by decide)).tr (EqO.set (by decide))))) (by decide)) (hB3.off (fun k k1 k2 => mset_ne (by omega))) ?_
          rw [mset_at]; rfl
        | inr f => cases hok
      · have hok := Bool.eq_false_iff.mpr hok
        rw [if_neg (by rw [hok]; decide)] at h
        rw [hok]
        obtain ⟨q, r2⟩ := r
        cases q with
        | inl a => cases hok
        | inr f =>
          refine g_if_eq_tt 50 dX9_rules_42 (by decide) ?_
          refine g_aload_n dX9_rules_45 rfl ?_
          refine g_call0 dX9_rules_46 clF_faultAnswer ml_F_149 gc9 rfl rfl (by decide) (Nat.le_of_ble_eq_true rfl) ?_
          refine SF_faultAnswer hT1 ?_
          refine g_ireturn dX9_rules_49 rfl (by first | rfl | exact nar_bI _) ?_
          refine h (mset M1 41 1 (nI 0)) (FxC.of (L := [41, 43, 44, 45, 46]) (hE1.tr (EqO.set (by decide))) (by decide)) (hB1.off (fun k k1 k2 => mset_ne (by omega))) ?_
          rw [mset_at]; rfl
    · rw [if_neg (by rw [c21]; decide)] at h
      refine g_bipush ((-3)) dX9_rules_24 kb_m3 ?_
      refine g_ireturn dX9_rules_26 rfl (by first | rfl | exact nar_bI _) ?_
      exact h M FxC.rf hB hT.2.2.1
  · rw [if_neg (by rw [c8]; decide)] at h
    refine g_iconst ((-1)) dX9_rules_11 ki_m1 ?_
    refine g_ireturn dX9_rules_12 rfl (by first | rfl | exact nar_bI _) ?_
    exact h M FxC.rf hB hT.2.2.1
