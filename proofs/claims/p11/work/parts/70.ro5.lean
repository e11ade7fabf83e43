/-! judged in the reference -/
theorem SM_firstBarred {d : Nat} {M : Mm} {S : BS} {Q : Po} {f : Nat → Nat} (hM : MK (M 58) S) (h62 : ∀ j, j < S 1 0 0 → M 62 j = nI (sd S j)) (hf : ∀ e, e < S 1 0 0 → M 71 e = hv (f e)) (hf8 : ∀ e, f e ≤ 8) (h : Q M (some (.int (barV S f)))) : Call (d + 5) mM_firstBarred [.ref 57] M Q := by
  have hw := hM.wf.nd
  refine Call_of (m := mM_firstBarred) [some (.ref 57), none, none] rfl (fun G => Nat.le_of_ble_eq_true rfl) (fun G => rfl) ?_
  refine g_iconst (nI 0) dX10_firstBarred_0 ki_0 ?_
  refine g_ist3_1 dX10_firstBarred_1 (by decide) rfl ?_
  refine loop_up (P := fun i => (∀ j, j < i → barB S f j = false) → Go mM_firstBarred (d + 5) Q 2 [some (.ref 57), some (.int (nI i)), none] [] M) (S 1 0 0) ?_ 0 (Nat.zero_le _) (fun j hj => absurd hj (by omega))
  intro i hi ih hno
  refine g_iload_n dX10_firstBarred_2 rfl ?_
  refine g_aload_n dX10_firstBarred_3 rfl ?_
  refine g_getr (j := 0) dX10_firstBarred_4 gc10 rfl (by decide) rfl (by decide) fl_M_9 ?_
  refine g_iconst (nI 2) dX10_firstBarred_7 ki_2 ?_
  refine g_iald_n dX10_firstBarred_8 (by first | rfl | assumption) (by first | decide | assumption) (by omega) (by omega) ?_
  try simp (disch := omega) only [hM.nd, h62]
  refine g_icmp_ge_n 50 dX10_firstBarred_9 (by decide) (by omega) (by omega) (fun c9 => ?_) (fun c9 => ?_)
  · have e1 : barI S f = S 1 0 0 := fstN_eq hno (by omega)
    rw [barV, if_pos e1] at h
    refine g_iconst ((-1)) dX10_firstBarred_50 ki_m1 ?_
    refine g_ireturn dX10_firstBarred_51 rfl (by first | rfl | exact nar_bI _) ?_
    exact h
  · have hsd := sd_lt (S := S) (k := i) (by omega)
    have h71 := hf (sd S i) hsd
    have h8 := hf8 (sd S i)
    have hnext : barB S f i = false → Go mM_firstBarred (d + 5) Q 44 [some (.ref 57), some (.int (nI i)), some (.int (nI (sd S i)))] [] M := by
      intro hb
      first | refine g_incn3_1 dX10_firstBarred_44 ki_1 (by decide) rfl ?_ | refine g_incg3_1 (nI 1) dX10_firstBarred_44 ki_1 (by decide) rfl ?_
      refine g_goto 2 dX10_firstBarred_47 (by decide) ?_
      refine Go_sub [some (.ref 57), some (.int (nI (i + 1))), none] (by simp [subL]) (ih (by omega) (fun j hj => ?_))
      by_cases e : j = i
      · rw [e]; exact hb
      · exact hno j (by omega)
    refine g_aload_n dX10_firstBarred_12 rfl ?_
    refine g_getr (j := 5) dX10_firstBarred_13 gc10 rfl (by decide) rfl (by decide) fl_M_22 ?_
    refine g_iload_n dX10_firstBarred_16 rfl ?_
    refine g_iald_n dX10_firstBarred_17 (by first | rfl | assumption) (by first | decide | assumption) (by omega) (by omega) ?_
    try simp (disch := omega) only [h62, h71]
    refine g_ist3_2 dX10_firstBarred_18 (by decide) rfl ?_
    refine g_aload_n dX10_firstBarred_19 rfl ?_
    refine g_getr (j := 27) dX10_firstBarred_20 gc10 rfl (by decide) rfl (by decide) fl_M_50 ?_
    refine g_iload_n dX10_firstBarred_23 rfl ?_
    refine g_iald_n dX10_firstBarred_24 (by first | rfl | assumption) (by first | decide | assumption) (by omega) (by omega) ?_
    try simp (disch := omega) only [h62, h71]
    refine g_if_lt 44 dX10_firstBarred_25 (by decide) (fun c25 => ?_) (fun c25 => ?_)
    · rw [hv_lt h8] at c25
      refine hnext ?_
      unfold barB
      rw [c25]
      rfl
    · rw [hv_lt h8] at c25
      refine g_aload_n dX10_firstBarred_28 rfl ?_
      refine g_aload_n dX10_firstBarred_29 rfl ?_
      refine g_getr (j := 27) dX10_firstBarred_30 gc10 rfl (by decide) rfl (by decide) fl_M_50 ?_
      refine g_iload_n dX10_firstBarred_33 rfl ?_
      refine g_iald_n dX10_firstBarred_34 (by first | rfl | assumption) (by first | decide | assumption) (by omega) (by omega) ?_
      try simp (disch := omega) only [h62, h71]
      refine g_iload_n dX10_firstBarred_35 rfl ?_
      refine g_call2 dX10_firstBarred_36 clM_mayHold ml_M_113 gc10 rfl rfl (by decide) (Nat.le_of_ble_eq_true rfl) ?_
      rw [hv_p (p := f (sd S i)) (by omega)]
      refine SM_mayHold hM (by omega) hsd ?_
      refine g_if_ne_b 44 dX10_firstBarred_39 (by decide) (fun c39 => ?_) (fun c39 => ?_)
      · refine hnext ?_
        unfold barB
        rw [c39]
        simp
      · have hb : barB S f i = true := by
          unfold barB
          rw [c39]
          simp [c25]
        have e1 : barI S f = i := fstN_hit hno hb (by omega)
        rw [barV, e1, if_neg (by omega)] at h
        refine g_iload_n dX10_firstBarred_42 rfl ?_
        refine g_ireturn dX10_firstBarred_43 rfl (by first | rfl | exact nar_bI _) ?_
        exact h
theorem SM_becomes_71 {d : Nat} {M : Mm} {S : BS} {Q : Po} {f : Nat → Nat} (hM : MK (M 58) S) (hf : ∀ e, e < S 1 0 0 → M 71 e = hv (f e)) (hf8 : ∀ e, f e ≤ 8) (h : ∀ M', EqO [58] M M' → MK (M' 58) (hoS S f (S 1 0 0)) → Q M' none) : Call (d + 1) mM_becomes [.ref 57, .ref 71] M Q := by
  have hw := hM.wf.nd
  refine Call_of (m := mM_becomes) [some (.ref 57), some (.ref 71), none] rfl (fun G => Nat.le_of_ble_eq_true rfl) (fun G => rfl) ?_
  refine g_iconst (nI 0) dX10_becomes_0 ki_0 ?_
  refine g_ist3_2 dX10_becomes_1 (by decide) rfl ?_
  refine loop_up (P := fun i => ∀ M', EqO [58] M M' → MK (M' 58) (hoS S f i) → Go mM_becomes (d + 1) Q 2 [some (.ref 57), some (.ref 71), some (.int (nI i))] [] M') (S 1 0 0) ?_ 0 (Nat.zero_le _) M EqO.rf (by rw [hoS_0]; exact hM)
  intro i hi ih M' hE hM'
  have e1 : ∀ k, hoS S f k 1 0 0 = S 1 0 0 := fun k => by rw [hoS_oth (by decide)]
  refine g_iload_n dX10_becomes_2 rfl ?_
  refine g_aload_n dX10_becomes_3 rfl ?_
  refine g_getr (j := 0) dX10_becomes_4 gc10 rfl (by decide) rfl (by decide) fl_M_9 ?_
  refine g_iconst (nI 2) dX10_becomes_7 ki_2 ?_
  refine g_iald_n dX10_becomes_8 (by first | rfl | assumption) (by first | decide | assumption) (by omega) (by omega) ?_
  try simp (disch := omega) only [hM'.nd, e1]
  refine g_icmp_ge_n 31 dX10_becomes_9 (by decide) (by omega) (by omega) (fun c9 => ?_) (fun c9 => ?_)
  · refine g_return dX10_becomes_31 rfl ?_
    rw [show i = S 1 0 0 by omega] at hM'
    exact h M' hE hM'
  · have h49 : M' 71 i = hv (f i) := by rw [hE 71 (by decide)]; exact hf i (by omega)
    refine g_aload_n dX10_becomes_12 rfl ?_
    refine g_getr (j := 0) dX10_becomes_13 gc10 rfl (by decide) rfl (by decide) fl_M_9 ?_
    refine g_sipush (nI 299) dX10_becomes_16 ks_299 ?_
    refine g_iload_n dX10_becomes_19 rfl ?_
    first | refine g_iadd_n dX10_becomes_20 ?_ | refine g_iadd dX10_becomes_20 ?_
    refine g_aload_n dX10_becomes_21 rfl ?_
    refine g_iload_n dX10_becomes_22 rfl ?_
    refine g_iald_n dX10_becomes_23 (by first | rfl | assumption) (by first | decide | assumption) (by omega) (by omega) ?_
    try simp (disch := omega) only [h49]
    refine g_iast_n dX10_becomes_24 (by first | rfl | assumption) (by first | decide | assumption) (by omega) (by omega) ?_
    first | refine g_incn3_2 dX10_becomes_25 ki_1 (by decide) rfl ?_ | refine g_incg3_2 (nI 1) dX10_becomes_25 ki_1 (by decide) rfl ?_
    refine g_goto 2 dX10_becomes_28 (by decide) ?_
    refine ih (by omega) _ (hE.tr (EqO.set (by decide))) ?_
    rw [hoS_step, mset_same]
    exact hM'.hol1 (by rw [e1]; omega) (hf8 i)
theorem SM_becomes_72 {d : Nat} {M : Mm} {S : BS} {Q : Po} {f : Nat → Nat} (hM : MK (M 58) S) (hf : ∀ e, e < S 1 0 0 → M 72 e = hv (f e)) (hf8 : ∀ e, f e ≤ 8) (h : ∀ M', EqO [58] M M' → MK (M' 58) (hoS S f (S 1 0 0)) → Q M' none) : Call (d + 1) mM_becomes [.ref 57, .ref 72] M Q := by
  have hw := hM.wf.nd
  refine Call_of (m := mM_becomes) [some (.ref 57), some (.ref 72), none] rfl (fun G => Nat.le_of_ble_eq_true rfl) (fun G => rfl) ?_
  refine g_iconst (nI 0) dX10_becomes_0 ki_0 ?_
  refine g_ist3_2 dX10_becomes_1 (by decide) rfl ?_
  refine loop_up (P := fun i => ∀ M', EqO [58] M M' → MK (M' 58) (hoS S f i) → Go mM_becomes (d + 1) Q 2 [some (.ref 57), some (.ref 72), some (.int (nI i))] [] M') (S 1 0 0) ?_ 0 (Nat.zero_le _) M EqO.rf (by rw [hoS_0]; exact hM)
  intro i hi ih M' hE hM'
  have e1 : ∀ k, hoS S f k 1 0 0 = S 1 0 0 := fun k => by rw [hoS_oth (by decide)]
  refine g_iload_n dX10_becomes_2 rfl ?_
  refine g_aload_n dX10_becomes_3 rfl ?_
  refine g_getr (j := 0) dX10_becomes_4 gc10 rfl (by decide) rfl (by decide) fl_M_9 ?_
  refine g_iconst (nI 2) dX10_becomes_7 ki_2 ?_
  refine g_iald_n dX10_becomes_8 (by first | rfl | assumption) (by first | decide | assumption) (by omega) (by omega) ?_
  try simp (disch := omega) only [hM'.nd, e1]
  refine g_icmp_ge_n 31 dX10_becomes_9 (by decide) (by omega) (by omega) (fun c9 => ?_) (fun c9 => ?_)
  · refine g_return dX10_becomes_31 rfl ?_
    rw [show i = S 1 0 0 by omega] at hM'
    exact h M' hE hM'
  · have h49 : M' 72 i = hv (f i) := by rw [hE 72 (by decide)]; exact hf i (by omega)
    refine g_aload_n dX10_becomes_12 rfl ?_
    refine g_getr (j := 0) dX10_becomes_13 gc10 rfl (by decide) rfl (by decide) fl_M_9 ?_
    refine g_sipush (nI 299) dX10_becomes_16 ks_299 ?_
    refine g_iload_n dX10_becomes_19 rfl ?_
    first | refine g_iadd_n dX10_becomes_20 ?_ | refine g_iadd dX10_becomes_20 ?_
    refine g_aload_n dX10_becomes_21 rfl ?_
    refine g_iload_n dX10_becomes_22 rfl ?_
    refine g_iald_n dX10_becomes_23 (by first | rfl | assumption) (by first | decide | assumption) (by omega) (by omega) ?_
    try simp (disch := omega) only [h49]
    refine g_iast_n dX10_becomes_24 (by first | rfl | assumption) (by first | decide | assumption) (by omega) (by omega) ?_
    first | refine g_incn3_2 dX10_becomes_25 ki_1 (by decide) rfl ?_ | refine g_incg3_2 (nI 1) dX10_becomes_25 ki_1 (by decide) rfl ?_
    refine g_goto 2 dX10_becomes_28 (by decide) ?_
    refine ih (by omega) _ (hE.tr (EqO.set (by decide))) ?_
    rw [hoS_step, mset_same]
    exact hM'.hol1 (by rw [e1]; omega) (hf8 i)
theorem hoS_back (S : BS) (f : Nat → Nat) (k : Nat) : hoS (hoS S f k) (hoF S) k = S := by
  funext a b c
  unfold hoS
  by_cases z : a = 12 ∧ c = 0 ∧ b < k
  · rw [if_pos z]
    obtain ⟨rfl, rfl, _⟩ := z
    rfl
  · rw [if_neg z, if_neg z]
theorem hoS_self (S : BS) (k : Nat) : hoS S (hoF S) k = S := by
  funext a b c
  unfold hoS
  by_cases z : a = 12 ∧ c = 0 ∧ b < k
  · rw [if_pos z]
    obtain ⟨rfl, rfl, _⟩ := z
    rfl
  · rw [if_neg z]
theorem hoS_two (S : BS) (f : Nat → Nat) (k : Nat) : hoS (hoS S f k) f k = hoS S f k := by
  funext a b c
  unfold hoS
  by_cases z : a = 12 ∧ c = 0 ∧ b < k
  · rw [if_pos z, if_pos z]
  · rw [if_neg z, if_neg z]
/-- the row holds the roster as it is, or as planned -/
def MKx (w : Nat → Int32) (S : BS) (f : Nat → Nat) : Prop := MK w S ∨ MK w (hoS S f (S 1 0 0))
theorem SM_toB {d : Nat} {M : Mm} {S : BS} {Q : Po} {f : Nat → Nat} (hx : MKx (M 58) S f) (hW : WF S) (h72 : ∀ e, e < S 1 0 0 → M 72 e = hv (S 12 e 0)) (h : ∀ M', EqO [58] M M' → MK (M' 58) S → Q M' none) : Call (d + 1) mM_becomes [.ref 57, .ref 72] M Q := by
  have hw := hW.nd
  have hf8 : ∀ e, (if e < 24 then S 12 e 0 else 8) ≤ 8 := fun e => by
    split
    · rename_i z; exact (hW.dk z).2.2
    · omega
  have hsame : ∀ T : BS, hoS T (fun e => if e < 24 then S 12 e 0 else 8) (S 1 0 0) = hoS T (hoF S) (S 1 0 0) := fun T => by
    funext a b c
    unfold hoS
    by_cases z : a = 12 ∧ c = 0 ∧ b < S 1 0 0
    · rw [if_pos z, if_pos z]
      show (if b < 24 then S 12 b 0 else 8) = S 12 b 0
      rw [if_pos (by omega)]
    · rw [if_neg z, if_neg z]
  have hf : ∀ e, e < S 1 0 0 → M 72 e = hv (if e < 24 then S 12 e 0 else 8) := fun e he => by rw [if_pos (by omega)]; exact h72 e he
  rcases hx with hM | hM
  · refine SM_becomes_72 hM hf hf8 (fun M' hE hM' => ?_)
    rw [hsame, hoS_self] at hM'
    exact h M' hE hM'
  · have e1 : hoS S f (S 1 0 0) 1 0 0 = S 1 0 0 := by rw [hoS_oth (by decide)]
    refine SM_becomes_72 hM (by rw [e1]; exact hf) hf8 (fun M' hE hM' => ?_)
    rw [e1, hsame, hoS_back] at hM'
    exact h M' hE hM'
theorem SM_toR {d : Nat} {M : Mm} {S : BS} {Q : Po} {f : Nat → Nat} (hx : MKx (M 58) S f) (h71 : ∀ e, e < S 1 0 0 → M 71 e = hv (f e)) (hf8 : ∀ e, f e ≤ 8) (h : ∀ M', EqO [58] M M' → MK (M' 58) (hoS S f (S 1 0 0)) → Q M' none) : Call (d + 1) mM_becomes [.ref 57, .ref 71] M Q := by
  rcases hx with hM | hM
  · exact SM_becomes_71 hM h71 hf8 h
  · have e1 : hoS S f (S 1 0 0) 1 0 0 = S 1 0 0 := by rw [hoS_oth (by decide)]
    refine SM_becomes_71 hM (by rw [e1]; exact h71) hf8 (fun M' hE hM' => ?_)
    rw [e1, hoS_two] at hM'
    exact h M' hE hM'
theorem held_hoS (S : BS) (f : Nat → Nat) (q k : Nat) : heldN (hoS S f (S 1 0 0)) q k = heldF S f q k := by
  unfold heldN heldF
  rw [show hoS S f (S 1 0 0) 1 0 0 = S 1 0 0 from by rw [hoS_oth (by decide)], hoS_oth (a := 11) (by decide)]
  refine cnt_cong (fun x hx => ?_)
  dsimp only
  rw [hoS_ho hx]
theorem load_hoS (S : BS) (f : Nat → Nat) (p k : Nat) : loadF (hoS S f (S 1 0 0)) (hoF (hoS S f (S 1 0 0))) p k = loadF S f p k := by
  have h1 := held_hoS S f p k
  unfold heldN at h1
  unfold loadF headN
  rw [show heldF (hoS S f (S 1 0 0)) (hoF (hoS S f (S 1 0 0))) p k = heldF S f p k from h1, hoS_oth (a := 5) (by decide), hoS_oth (a := 3) (by decide)]
theorem hr_hoS (S : BS) (f : Nat → Nat) : hr (hoS S f (S 1 0 0)) = hr S := by
  funext p
  unfold hr
  rw [hoS_oth (by decide)]
theorem vec_hoS (S : BS) (f : Nat → Nat) (k : Nat) : ∀ n, vecV (hoS S f (S 1 0 0)) (hoF (hoS S f (S 1 0 0))) k n = vecV S f k n
  | 0 => rfl
  | n + 1 => by rw [vecV, vecV, vec_hoS S f k n, hr_hoS, load_hoS]
def cmpD (v w : Nat → Nat) (n : Nat) : Int32 := if cmpI v w n = n then nI 0 else nI (v (cmpI v w n)) - nI (w (cmpI v w n))
theorem sub_lt {a b : Nat} (ha : a ≤ 1025) (hb : b ≤ 1025) : (nI a - nI b).toInt = (a : Int) - (b : Int) := by
  rw [Int32.toInt_sub, nI_toInt (by omega), nI_toInt (by omega), Int.bmod_def]
  split <;> omega
theorem cmpI_at {v w : Nat → Nat} {n : Nat} (h : cmpI v w n ≠ n) : cmpI v w n < n ∧ v (cmpI v w n) ≠ w (cmpI v w n) := by
  have hle : cmpI v w n ≤ n := fstN_le _ _
  refine ⟨by omega, fun z => h ?_⟩
  have : ∀ m, m ≤ n → (∀ j, j < m → (!(v j == w j)) = false) ∨ ∃ i, i < m ∧ (!(v i == w i)) = true ∧ ∀ j, j < i → (!(v j == w j)) = false := by
    intro m
    induction m with
    | zero => exact fun _ => Or.inl (fun j hj => absurd hj (by omega))
    | succ m ih =>
      intro hm
      rcases ih (by omega) with y | ⟨i, y1, y2, y3⟩
      · cases hc : (!(v m == w m)) with
        | false =>
          refine Or.inl (fun j hj => ?_)
          by_cases e : j = m
          · rw [e]; exact hc
          · exact y j (by omega)
        | true => exact Or.inr ⟨m, by omega, hc, y⟩
      · exact Or.inr ⟨i, by omega, y2, y3⟩
  rcases this n (Nat.le_refl _) with y | ⟨i, y1, y2, y3⟩
  · exact fstN_eq y (Nat.le_refl _)
  · have e : cmpI v w n = i := fstN_hit (f := fun j => !(v j == w j)) y3 y2 y1
    rw [e] at z
    rw [z] at y2
    simp at y2
theorem cmp_DV {v w : Nat → Nat} {n : Nat} (hv : ∀ j, j < n → v j ≤ 1025) (hw : ∀ j, j < n → w j ≤ 1025) : (cmpD v w n < 0 ↔ cmpV v w n < 0) ∧ (cmpD v w n ≤ 0 ↔ cmpV v w n ≤ 0) ∧ (cmpV v w n = nI 0 ↔ (¬ cmpD v w n < 0 ∧ cmpD v w n ≤ 0)) := by
  unfold cmpD cmpV
  by_cases e : cmpI v w n = n
  · rw [if_pos e, if_pos e]
    exact ⟨Iff.rfl, Iff.rfl, by decide⟩
  · rw [if_neg e, if_neg e]
    obtain ⟨h1, h2⟩ := cmpI_at e
    have b1 := hv _ h1
    have b2 := hw _ h1
    have hs := sub_lt b1 b2
    have h0 : (0 : Int32).toInt = 0 := by decide
    rw [Int32.lt_iff_toInt_lt, Int32.le_iff_toInt_le, hs, h0]
    by_cases z : v (cmpI v w n) < w (cmpI v w n)
    · rw [if_pos z]
      refine ⟨⟨fun _ => by decide, fun _ => by omega⟩, ⟨fun _ => by decide, fun _ => by omega⟩, ⟨fun y => absurd y (by decide), fun y => by omega⟩⟩
    · rw [if_neg z]
      refine ⟨⟨fun _ => by omega, fun y => absurd y (by decide)⟩, ⟨fun _ => by omega, fun y => absurd y (by decide)⟩, ⟨fun y => absurd y (by decide), fun y => by omega⟩⟩
theorem SM_compares {d : Nat} {M : Mm} {S : BS} {Q : Po} {f : Nat → Nat} (hx : MKx (M 58) S f) (hW : WF S) (h71 : ∀ e, e < S 1 0 0 → M 71 e = hv (f e)) (h72 : ∀ e, e < S 1 0 0 → M 72 e = hv (S 12 e 0)) (hf8 : ∀ e, f e ≤ 8) {k : Nat} (hk : k < 4) (h : ∀ M', EqQ [58, 66, 73] M M' → MK (M' 58) (hoS S f (S 1 0 0)) → Q M' (some (.int (cmpD (vecV S f k (S 0 0 0)) (vecV S (hoF S) k (S 0 0 0)) (cnt (hr S) (S 0 0 0)))))) : Call (d + 6) mM_compares [.ref 57, .int (nI k)] M Q := by
  have hw := hW.np
  have hcl := cnt_le (hr S) (S 0 0 0)
  have hv1 := vecV_le hW f hk (n := S 0 0 0) (Nat.le_refl _)
  have hv2 := vecV_le hW (hoF S) hk (n := S 0 0 0) (Nat.le_refl _)
  have e0 : hoS S f (S 1 0 0) 0 0 0 = S 0 0 0 := by rw [hoS_oth (by decide)]
  refine Call_of (m := mM_compares) [some (.ref 57), some (.int (nI k)), none] rfl (fun G => Nat.le_of_ble_eq_true rfl) (fun G => rfl) ?_
  refine g_aload_n dX10_compares_0 rfl ?_
  refine g_aload_n dX10_compares_1 rfl ?_
  refine g_getr (j := 28) dX10_compares_2 gc10 rfl (by decide) rfl (by decide) fl_M_53 ?_
  refine g_call1 dX10_compares_5 clM_becomes ml_M_330 gc10 rfl rfl (by decide) (Nat.le_of_ble_eq_true rfl) ?_
  refine SM_toB hx hW h72 (fun M1 hE1 hM1 => ?_)
  refine g_aload_n dX10_compares_8 rfl ?_
  refine g_iload_n dX10_compares_9 rfl ?_
  refine g_call1 dX10_compares_10 clM_vectors ml_M_183 gc10 rfl rfl (by decide) (Nat.le_of_ble_eq_true rfl) ?_
  refine SM_vectors hM1 hk (fun M2 hE2 h11 hr2 => ?_)
  refine g_iconst (nI 0) dX10_compares_13 ki_0 ?_
  refine g_ist3_2 dX10_compares_14 (by decide) rfl ?_
  refine loop_up (P := fun i => ∀ M', EqQ [73] M2 M' → (∀ j, j < i → M' 73 j = nI (vecV S (hoF S) k (S 0 0 0) j)) → M' 57 11 = nI (cnt (hr S) (S 0 0 0)) → Go mM_compares (d + 6) Q 15 [some (.ref 57), some (.int (nI k)), some (.int (nI i))] [] M') (cnt (hr S) (S 0 0 0)) ?_ 0 (Nat.zero_le _) M2 EqQ.rf (fun j hj => absurd hj (by omega)) h11
  intro i hi ih M3 hE3 h73 h11'
  refine g_iload_n dX10_compares_15 rfl ?_
  refine g_aload_n dX10_compares_16 rfl ?_
  refine g_geti (j := 11) dX10_compares_17 gc10 rfl (by decide) rfl (by decide) fl_M_180 ?_
  try simp (disch := omega) only [h11']
  refine g_icmp_ge_n 41 dX10_compares_20 (by decide) (by omega) (by omega) (fun c20 => ?_) (fun c20 => ?_)
  · have h73 : ∀ j, j < cnt (hr S) (S 0 0 0) → M3 73 j = nI (vecV S (hoF S) k (S 0 0 0) j) := fun j hj => h73 j (by omega)
    have hE4 : EqQ [58, 66, 73] M M3 := ((EqQ.ofO hE1).sub (by decide)).tr ((hE2.sub (by decide)).tr (hE3.sub (by decide)))
    have hM3 : MK (M3 58) S := by rw [hE3.row (by decide) (by decide), hE2.row (by decide) (by decide)]; exact hM1
    have g71 : ∀ e, e < S 1 0 0 → M3 71 e = hv (f e) := fun e he => by rw [hE4.row (by decide) (by decide)]; exact h71 e he
    clear ih h11' h11 hr2
    refine g_aload_n dX10_compares_41 rfl ?_
    refine g_aload_n dX10_compares_42 rfl ?_
    refine g_getr (j := 27) dX10_compares_43 gc10 rfl (by decide) rfl (by decide) fl_M_50 ?_
    refine g_call1 dX10_compares_46 clM_becomes ml_M_330 gc10 rfl rfl (by decide) (Nat.le_of_ble_eq_true rfl) ?_
    refine SM_toR (Or.inl hM3) g71 hf8 (fun M5 hE5 hM5 => ?_)
    refine g_aload_n dX10_compares_49 rfl ?_
    refine g_iload_n dX10_compares_50 rfl ?_
    refine g_call1 dX10_compares_51 clM_vectors ml_M_183 gc10 rfl rfl (by decide) (Nat.le_of_ble_eq_true rfl) ?_
    refine SM_vectors hM5 hk (fun M6 hE6 h11 hr6 => ?_)
    rw [hr_hoS, e0] at h11 hr6
    rw [vec_hoS] at hr6
    have hE7 : EqQ [58, 66, 73] M M6 := hE4.tr (((EqQ.ofO hE5).sub (by decide)).tr (hE6.sub (by decide)))
    have h := h M6 hE7 (by rw [hE6.row (by decide) (by decide)]; exact hM5)
    have g73 : ∀ j, j < cnt (hr S) (S 0 0 0) → M6 73 j = nI (vecV S (hoF S) k (S 0 0 0) j) := fun j hj => by rw [hE6.row (by decide) (by decide), hE5 73 (by decide)]; exact h73 j hj
    clear h73
    generalize vecV S f k (S 0 0 0) = v at hr6 h hv1
    generalize vecV S (hoF S) k (S 0 0 0) = w at g73 h hv2
    generalize cnt (hr S) (S 0 0 0) = n at hr6 g73 h hv1 hv2 hcl h11
    refine g_iconst (nI 0) dX10_compares_54 ki_0 ?_
    refine g_ist3_2 dX10_compares_55 (by decide) rfl ?_
    refine loop_up (P := fun i => (∀ j, j < i → (!(v j == w j)) = false) → Go mM_compares (d + 6) Q 56 [some (.ref 57), some (.int (nI k)), some (.int (nI i))] [] M6) n ?_ 0 (Nat.zero_le _) (fun j hj => absurd hj (by omega))
    intro i hi ih hno
    refine g_iload_n dX10_compares_56 rfl ?_
    refine g_aload_n dX10_compares_57 rfl ?_
    refine g_geti (j := 11) dX10_compares_58 gc10 rfl (by decide) rfl (by decide) fl_M_180 ?_
    try simp (disch := omega) only [h11, hr6, g73]
    refine g_icmp_ge_n 99 dX10_compares_61 (by decide) (by omega) (by omega) (fun c61 => ?_) (fun c61 => ?_)
    · have e1 : cmpI v w n = n := fstN_eq (f := fun j => !(v j == w j)) hno (by omega)
      rw [cmpD, if_pos e1] at h
      refine g_iconst (nI 0) dX10_compares_99 ki_0 ?_
      refine g_ireturn dX10_compares_100 rfl (by first | rfl | exact nar_bI _) ?_
      exact h
    · have b1 := hv1 i (by omega)
      have b2 := hv2 i (by omega)
      refine g_aload_n dX10_compares_64 rfl ?_
      refine g_getr (j := 10) dX10_compares_65 gc10 rfl (by decide) rfl (by decide) fl_M_35 ?_
      refine g_iload_n dX10_compares_68 rfl ?_
      refine g_iald_n dX10_compares_69 (by first | rfl | assumption) (by first | decide | assumption) (by omega) (by omega) ?_
      try simp (disch := omega) only [h11, hr6, g73]
      refine g_aload_n dX10_compares_70 rfl ?_
      refine g_getr (j := 29) dX10_compares_71 gc10 rfl (by decide) rfl (by decide) fl_M_56 ?_
      refine g_iload_n dX10_compares_74 rfl ?_
      refine g_iald_n dX10_compares_75 (by first | rfl | assumption) (by first | decide | assumption) (by omega) (by omega) ?_
      try simp (disch := omega) only [h11, hr6, g73]
      refine g_icmp_eq_n 93 dX10_compares_76 (by decide) (by omega) (by omega) (fun c76 => ?_) (fun c76 => ?_)
      · first | refine g_incn3_2 dX10_compares_93 ki_1 (by decide) rfl ?_ | refine g_incg3_2 (nI 1) dX10_compares_93 ki_1 (by decide) rfl ?_
        refine g_goto 56 dX10_compares_96 (by decide) ?_
        refine ih (by omega) (fun j hj => ?_)
        by_cases e : j = i
        · rw [e, c76]; simp
        · exact hno j (by omega)
      · have e1 : cmpI v w n = i := fstN_hit (f := fun j => !(v j == w j)) hno (by simp [c76]) (by omega)
        rw [cmpD, e1, if_neg (by omega)] at h
        refine g_aload_n dX10_compares_79 rfl ?_
        refine g_getr (j := 10) dX10_compares_80 gc10 rfl (by decide) rfl (by decide) fl_M_35 ?_
        refine g_iload_n dX10_compares_83 rfl ?_
        refine g_iald_n dX10_compares_84 (by first | rfl | assumption) (by first | decide | assumption) (by omega) (by omega) ?_
        try simp (disch := omega) only [h11, hr6, g73]
        refine g_aload_n dX10_compares_85 rfl ?_
        refine g_getr (j := 29) dX10_compares_86 gc10 rfl (by decide) rfl (by decide) fl_M_56 ?_
        refine g_iload_n dX10_compares_89 rfl ?_
        refine g_iald_n dX10_compares_90 (by first | rfl | assumption) (by first | decide | assumption) (by omega) (by omega) ?_
        try simp (disch := omega) only [h11, hr6, g73]
        refine g_isub dX10_compares_91 ?_
        refine g_ireturn dX10_compares_92 rfl (by first | rfl | exact nar_bI _) ?_
        exact h
  · have e66 : M3 66 i = nI (vecV S (hoF S) k (S 0 0 0) i) := by rw [hE3.row (by decide) (by decide)]; exact hr2 i (by omega)
    refine g_aload_n dX10_compares_23 rfl ?_
    refine g_getr (j := 29) dX10_compares_24 gc10 rfl (by decide) rfl (by decide) fl_M_56 ?_
    refine g_iload_n dX10_compares_27 rfl ?_
    refine g_aload_n dX10_compares_28 rfl ?_
    refine g_getr (j := 10) dX10_compares_29 gc10 rfl (by decide) rfl (by decide) fl_M_35 ?_
    refine g_iload_n dX10_compares_32 rfl ?_
    refine g_iald_n dX10_compares_33 (by first | rfl | assumption) (by first | decide | assumption) (by omega) (by omega) ?_
    try simp (disch := omega) only [e66]
    refine g_iast_n dX10_compares_34 (by first | rfl | assumption) (by first | decide | assumption) (by omega) (by omega) ?_
    first | refine g_incn3_2 dX10_compares_35 ki_1 (by decide) rfl ?_ | refine g_incg3_2 (nI 1) dX10_compares_35 ki_1 (by decide) rfl ?_
    refine g_goto 15 dX10_compares_38 (by decide) ?_
    refine ih (by omega) _ (hE3.tr (EqQ.set (by decide))) (fun j hj => ?_) (by rw [mset_ne (by decide)]; exact h11')
    by_cases e : j = i
    · subst e; rw [mset_at]
    · rw [mset_off (by omega)]; exact h73 j (by omega)
theorem SM_remembers {d : Nat} {M : Mm} {S : BS} {Q : Po} (hM : MK (M 58) S) (h : ∀ M', EqO [72] M M' → (∀ e, e < S 1 0 0 → M' 72 e = hv (S 12 e 0)) → Q M' none) : Call (d + 2) mM_remembers [.ref 57] M Q := by
  have hw := hM.wf.nd
  refine Call_of (m := mM_remembers) [some (.ref 57), none] rfl (fun G => Nat.le_of_ble_eq_true rfl) (fun G => rfl) ?_
  refine g_iconst (nI 0) dX10_remembers_0 ki_0 ?_
  refine g_ist2_1 dX10_remembers_1 (by decide) rfl ?_
  refine loop_up (P := fun i => ∀ M', EqO [72] M M' → (∀ e, e < i → M' 72 e = hv (S 12 e 0)) → Go mM_remembers (d + 2) Q 2 [some (.ref 57), some (.int (nI i))] [] M') (S 1 0 0) ?_ 0 (Nat.zero_le _) M EqO.rf (fun e he => absurd he (by omega))
  intro i hi ih M' hE hc
  have hM' : MK (M' 58) S := by rw [hE 58 (by decide)]; exact hM
  refine g_iload_n dX10_remembers_2 rfl ?_
  refine g_aload_n dX10_remembers_3 rfl ?_
  refine g_getr (j := 0) dX10_remembers_4 gc10 rfl (by decide) rfl (by decide) fl_M_9 ?_
  refine g_iconst (nI 2) dX10_remembers_7 ki_2 ?_
  refine g_iald_n dX10_remembers_8 (by first | rfl | assumption) (by first | decide | assumption) (by omega) (by omega) ?_
  try simp (disch := omega) only [hM'.nd]
  refine g_icmp_ge_n 29 dX10_remembers_9 (by decide) (by omega) (by omega) (fun c9 => ?_) (fun c9 => ?_)
  · refine g_return dX10_remembers_29 rfl ?_
    exact h M' hE (fun e he => hc e (by omega))
  · refine g_aload_n dX10_remembers_12 rfl ?_
    refine g_getr (j := 28) dX10_remembers_13 gc10 rfl (by decide) rfl (by decide) fl_M_53 ?_
    refine g_iload_n dX10_remembers_16 rfl ?_
    refine g_aload_n dX10_remembers_17 rfl ?_
    refine g_iload_n dX10_remembers_18 rfl ?_
    refine g_call1 dX10_remembers_19 clM_holder ml_M_78 gc10 rfl rfl (by decide) (Nat.le_of_ble_eq_true rfl) ?_
    refine SM_holder hM' (by omega) ?_
    refine g_iast_n dX10_remembers_22 (by first | rfl | assumption) (by first | decide | assumption) (by omega) (by omega) ?_
    first | refine g_incn2_1 dX10_remembers_23 ki_1 (by decide) rfl ?_ | refine g_incg2_1 (nI 1) dX10_remembers_23 ki_1 (by decide) rfl ?_
    refine g_goto 2 dX10_remembers_26 (by decide) ?_
    refine ih (by omega) _ (hE.tr (EqO.set (by decide))) (fun e he => ?_)
    by_cases z : e = i
    · subst z; rw [mset_at]
    · rw [mset_off (by omega)]; exact hc e (by omega)
