/-! judged in the reference -/
theorem SM_firstBarred {d : Nat} {M : Mm} {S : BS} {Q : Po} {f : Nat → Nat} (hM : MK (M 58) S) (h62 : ∀ j, j < S 1 0 0 → M 62 j = nI (sd S j)) (hf : ∀ e, e < S 1 0 0 → M 71 e = hv (f e)) (hf8 : ∀ e, f e ≤ 8) (h : Q M (some (.int (barV S f)))) : Call (d + 5) mM_firstBarred [.ref 57] M Q := by
  have hw := hM.wf.nd
  refine Call_of (m := mM_firstBarred) [some (.ref 57), none, none] rfl (fun G => Nat.le_of_ble_eq_true rfl) (fun G => rfl) ?_
  refine g_iconst (nI 0) dX10_firstBarred_0 ki_0 ?_
  refine g_ist3_1 dX10_firstBarred_1 (by decide) rfl ?_
  refine loop_up (P := fun i => (∀ j, j < i → barB S f j = false) → Go mM_firstBarred (d + 5) Q 2 [some (.ref 57), some (.int (nI i)), none] [] M) (S 1 0 0) ?_ 0 (Nat.zero_le _) (fun j hj => absurd hj (by omega))
  intro i hi ih hno
  refine g_iload_n dX10_firstBarred_2 rfl ?_
  refine g_aload_n dX10_firstBarred_3 rfl ?_
  refine g_getr (j := 0) dX10_firstBarred_4 gc10 rfl (by decide) rfl (by decide) fl_M_9 ?_
  refine g_iconst (nI 2) dX10_firstBarred_7 ki_2 ?_
  refine g_iald_n dX10_firstBarred_8 (by first | rfl | assumption) (by first | decide | assumption) (by omega) (by omega) ?_
  try simp (disch := omega) only [hM.nd, h62]
  refine g_icmp_ge_n 50 dX10_firstBarred_9 (by decide) (by omega) (by omega) (fun c9 => ?_) (fun c9 => ?_)
  · have e1 : barI S f = S 1 0 0 := fstN_eq hno (by omega)
    rw [barV, if_pos e1] at h
    refine g_iconst ((-1)) dX10_firstBarred_50 ki_m1 ?_
    refine g_ireturn dX10_firstBarred_51 rfl (by first | rfl | exact nar_bI _) ?_
    exact h
  · have hsd := sd_lt (S := S) (k := i) (by omega)
    have h71 := hf (sd S i) hsd
    have h8 := hf8 (sd S i)
    have hnext : barB S f i = false → Go mM_firstBarred (d + 5) Q 44 [some (.ref 57), some (.int (nI i)), some (.int (nI (sd S i)))] [] M := by
      intro hb
      first | refine g_incn3_1 dX10_firstBarred_44 ki_1 (by decide) rfl ?_ | refine g_incg3_1 (nI 1) dX10_firstBarred_44 ki_1 (by decide) rfl ?_
      refine g_goto 2 dX10_firstBarred_47 (by decide) ?_
      refine Go_sub [some (.ref 57), some (.int (nI (i + 1))), none] (by simp [subL]) (ih (by omega) (fun j hj => ?_))
      by_cases e : j = i
      · rw [e]; exact hb
      · exact hno j (by omega)
    refine g_aload_n dX10_firstBarred_12 rfl ?_
    refine g_getr (j := 5) dX10_firstBarred_13 gc10 rfl (by decide) rfl (by decide) fl_M_22 ?_
    refine g_iload_n dX10_firstBarred_16 rfl ?_
    refine g_iald_n dX10_firstBarred_17 (by first | rfl | assumption) (by first | decide | assumption) (by omega) (by omega) ?_
    try simp (disch := omega) only [h62, h71]
    refine g_ist3_2 dX10_firstBarred_18 (by decide) rfl ?_
    refine g_aload_n dX10_firstBarred_19 rfl ?_
    refine g_getr (j := 27) dX10_firstBarred_20 gc10 rfl (by decide) rfl (by decide) fl_M_50 ?_
    refine g_iload_n dX10_firstBarred_23 rfl ?_
    refine g_iald_n dX10_firstBarred_24 (by first | rfl | assumption) (by first | decide | assumption) (by omega) (by omega) ?_
    try simp (disch := omega) only [h62, h71]
    refine g_if_lt 44 dX10_firstBarred_25 (by decide) (fun c25 => ?_) (fun c25 => ?_)
    · rw [hv_lt h8] at c25
      refine hnext ?_
      unfold barB
      rw [c25]
      rfl
    · rw [hv_lt h8] at c25
      refine g_aload_n dX10_firstBarred_28 rfl ?_
      refine g_aload_n dX10_firstBarred_29 rfl ?_
      refine g_getr (j := 27) dX10_firstBarred_30 gc10 rfl (by decide) rfl (by decide) fl_M_50 ?_
      refine g_iload_n dX10_firstBarred_33 rfl ?_
      refine g_iald_n dX10_firstBarred_34 (by first | rfl | assumption) (by first | decide | assumption) (by omega) (by omega) ?_
      try simp (disch := omega) only [h62, h71]
      refine g_iload_n dX10_firstBarred_35 rfl ?_
      refine g_call2 dX10_firstBarred_36 clM_mayHold ml_M_113 gc10 rfl rfl (by decide) (Nat.le_of_ble_eq_true rfl) ?_
      rw [hv_p (p := f (sd S i)) (by omega)]
      refine SM_mayHold hM (by omega) hsd ?_
      refine g_if_ne_b 44 dX10_firstBarred_39 (by decide) (fun c39 => ?_) (fun c39 => ?_)
      · refine hnext ?_
        unfold barB
        rw [c39]
        simp
      · have hb : barB S f i = true := by
          unfold barB
          rw [c39]
          simp [c25]
        have e1 : barI S f = i := fstN_hit hno hb (by omega)
        rw [barV, e1, if_neg (by omega)] at h
        refine g_iload_n dX10_firstBarred_42 rfl ?_
        refine g_ireturn dX10_firstBarred_43 rfl (by first | rfl | exact nar_bI _) ?_
        exact h
theorem SM_becomes_71 {d : Nat} {M : Mm} {S : BS} {Q : Po} {f : Nat → Nat} (hM : MK (M 58) S) (hf : ∀ e, e < S 1 0 0 → M 71 e = hv (f e)) (hf8 : ∀ e, f e ≤ 8) (h : ∀ M', EqO [58] M M' → MK (M' 58) (hoS S f (S 1 0 0)) → Q M' none) : Call (d + 1) mM_becomes [.ref 57, .ref 71] M Q := by
  have hw := hM.wf.nd
  refine Call_of (m := mM_becomes) [some (.ref 57), some (.ref 71), none] rfl (fun G => Nat.le_of_ble_eq_true rfl) (fun G => rfl) ?_
  refine g_iconst (nI 0) dX10_becomes_0 ki_0 ?_
  refine g_ist3_2 dX10_becomes_1 (by decide) rfl ?_
  refine loop_up (P := fun i => ∀ M', EqO [58] M M' → MK (M' 58) (hoS S f i) → Go mM_becomes (d + 1) Q 2 [some (.ref 57), some (.ref 71), some (.int (nI i))] [] M') (S 1 0 0) ?_ 0 (Nat.zero_le _) M EqO.rf (by rw [hoS_0]; exact hM)
  intro i hi ih M' hE hM'
  have e1 : ∀ k, hoS S f k 1 0 0 = S 1 0 0 := fun k => by rw [hoS_oth (by decide)]
  refine g_iload_n dX10_becomes_2 rfl ?_
  refine g_aload_n dX10_becomes_3 rfl ?_
  refine g_getr (j := 0) dX10_becomes_4 gc10 rfl (by decide) rfl (by decide) fl_M_9 ?_
  refine g_iconst (nI 2) dX10_becomes_7 ki_2 ?_
  refine g_iald_n dX10_becomes_8 (by first | rfl | assumption) (by first | decide | assumption) (by omega) (by omega) ?_
  try simp (disch := omega) only [hM'.nd, e1]
  refine g_icmp_ge_n 31 dX10_becomes_9 (by decide) (by omega) (by omega) (fun c9 => ?_) (fun c9 => ?_)
  · refine g_return dX10_becomes_31 rfl ?_
    rw [show i = S 1 0 0 by omega] at hM'
    exact h M' hE hM'
  · have h49 : M' 71 i = hv (f i) := by rw [hE 71 (by decide)]; exact hf i (by omega)
    refine g_aload_n dX10_becomes_12 rfl ?_
    refine g_getr (j := 0) dX10_becomes_13 gc10 rfl (by decide) rfl (by decide) fl_M_9 ?_
    refine g_sipush (nI 299) dX10_becomes_16 ks_299 ?_
    refine g_iload_n dX10_becomes_19 rfl ?_
    first | refine g_iadd_n dX10_becomes_20 ?_ | refine g_iadd dX10_becomes_20 ?_
    refine g_aload_n dX10_becomes_21 rfl ?_
    refine g_iload_n dX10_becomes_22 rfl ?_
    refine g_iald_n dX10_becomes_23 (by first | rfl | assumption) (by first | decide | assumption) (by omega) (by omega) ?_
    try simp (disch := omega) only [h49]
    refine g_iast_n dX10_becomes_24 (by first | rfl | assumption) (by first | decide | assumption) (by omega) (by omega) ?_
    first | refine g_incn3_2 dX10_becomes_25 ki_1 (by decide) rfl ?_ | refine g_incg3_2 (nI 1) dX10_becomes_25 ki_1 (by decide) rfl ?_
    refine g_goto 2 dX10_becomes_28 (by decide) ?_
    refine ih (by omega) _ (hE.tr (EqO.set (by decide))) ?_
    rw [hoS_step, mset_same]
    exact hM'.hol1 (by rw [e1]; omega) (hf8 i)
theorem SM_becomes_72 {d : Nat} {M : Mm} {S : BS} {Q : Po} {f : Nat → Nat} (hM : MK (M 58) S) (hf : ∀ e, e < S 1 0 0 → M 72 e = hv (f e)) (hf8 : ∀ e, f e ≤ 8) (h : ∀ M', EqO [58] M M' → MK (M' 58) (hoS S f (S 1 0 0)) → Q M' none) : Call (d + 1) mM_becomes [.ref 57, .ref 72] M Q := by
  have hw := hM.wf.nd
  refine Call_of (m := mM_becomes) [some (.ref 57), some (.ref 72), none] rfl (fun G => Nat.le_of_ble_eq_true rfl) (fun G => rfl) ?_
  refine g_iconst (nI 0) dX10_becomes_0 ki_0 ?_
  refine g_ist3_2 dX10_becomes_1 (by decide) rfl ?_
  refine loop_up (P := fun i => ∀ M', EqO [58] M M' → MK (M' 58) (hoS S f i) → Go mM_becomes (d + 1) Q 2 [some (.ref 57), some (.ref 72), some (.int (nI i))] [] M') (S 1 0 0) ?_ 0 (Nat.zero_le _) M EqO.rf (by rw [hoS_0]; exact hM)
  intro i hi ih M' hE hM'
  have e1 : ∀ k, hoS S f k 1 0 0 = S 1 0 0 := fun k => by rw [hoS_oth (by decide)]
  refine g_iload_n dX10_becomes_2 rfl ?_
  refine g_aload_n dX10_becomes_3 rfl ?_
  refine g_getr (j := 0) dX10_becomes_4 gc10 rfl (by decide) rfl (by decide) fl_M_9 ?_
  refine g_iconst (nI 2) dX10_becomes_7 ki_2 ?_
  refine g_iald_n dX10_becomes_8 (by first | rfl | assumption) (by first | decide | assumption) (by omega) (by omega) ?_
  try simp (disch := omega) only [hM'.nd, e1]
  refine g_icmp_ge_n 31 dX10_becomes_9 (by decide) (by omega) (by omega) (fun c9 => ?_) (fun c9 => ?_)
  · refine g_return dX10_becomes_31 rfl ?_
    rw [show i = S 1 0 0 by omega] at hM'
    exact h M' hE hM'
  · have h49 : M' 72 i = hv (f i) := by rw [hE 72 (by decide)]; exact hf i (by omega)
    refine g_aload_n dX10_becomes_12 rfl ?_
    refine g_getr (j := 0) dX10_becomes_13 gc10 rfl (by decide) rfl (by decide) fl_M_9 ?_
    refine g_sipush (nI 299) dX10_becomes_16 ks_299 ?_
    refine g_iload_n dX10_becomes_19 rfl ?_
    first | refine g_iadd_n dX10_becomes_20 ?_ | refine g_iadd dX10_becomes_20 ?_
    refine g_aload_n dX10_becomes_21 rfl ?_
    refine g_iload_n dX10_becomes_22 rfl ?_
    refine g_iald_n dX10_becomes_23 (by first | rfl | assumption) (by first | decide | assumption) (by omega) (by omega) ?_
    try simp (disch := omega) only [h49]
    refine g_iast_n dX10_becomes_24 (by first | rfl | assumption) (by first | decide | assumption) (by omega) (by omega) ?_
    first | refine g_incn3_2 dX10_becomes_25 ki_1 (by decide) rfl ?_ | refine g_incg3_2 (nI 1) dX10_becomes_25 ki_1 (by decide) rfl ?_
    refine g_goto 2 dX10_becomes_28 (by decide) ?_
    refine ih (by omega) _ (hE.tr (EqO.set (by decide))) ?_
    rw [hoS_step, mset_same]
    exact hM'.hol1 (by rw [e1]; omega) (hf8 i)
theorem hoS_back (S : BS) (f : Nat → Nat) (k : Nat) : hoS (hoS S f k) (hoF S) k = S := by
  funext a b c
  unfold hoS
  by_cases z : a = 12 ∧ c = 0 ∧ b < k
  · rw [if_pos z]
    obtain ⟨rfl, rfl, _⟩ := z
    rfl
  · rw [if_neg z, if_neg z]
theorem hoS_self (S : BS) (k : Nat) : hoS S (hoF S) k = S := by
  funext a b c
  unfold hoS
  by_cases z : a = 12 ∧ c = 0 ∧ b < k
  · rw [if_pos z]
    obtain ⟨rfl, rfl, _⟩ := z
    rfl
  · rw [if_neg z]
theorem hoS_two (S : BS) (f : Nat → Nat) (k : Nat) : hoS (hoS S f k) f k = hoS S f k := by
  funext a b c
  unfold hoS
  by_cases z : a = 12 ∧ c = 0 ∧ b < k
  · rw [if_pos z, if_pos z]
  · rw [if_neg z, if_neg z]
/-- the row holds the roster as it is, or as planned -/
def MKx (w : Nat → Int32) (S : BS) (f : Nat → Nat) : Prop := MK w S ∨ MK w (hoS S f (S 1 0 0))
theorem SM_toB {d : Nat} {M : Mm} {S : BS} {Q : Po} {f : Nat → Nat} (hx : MKx (M 58) S f) (hW : WF S) (h72 : ∀ e, e < S 1 0 0 → M 72 e = hv (S 12 e 0)) (h : ∀ M', EqO [58] M M' → MK (M' 58) S → Q M' none) : Call (d + 1) mM_becomes [.ref 57, .ref 72] M Q := by
  have hw := hW.nd
  have hf8 : ∀ e, (if e < 24 then S 12 e 0 else 8) ≤ 8 := fun e => by
    split
    · rename_i z; exact (hW.dk z).2.2
    · omega
  have hsame : ∀ T : BS, hoS T (fun e => if e < 24 then S 12 e 0 else 8) (S 1 0 0) = hoS T (hoF S) (S 1 0 0) := fun T => by
    funext a b c
    unfold hoS
    by_cases z : a = 12 ∧ c = 0 ∧ b < S 1 0 0
    · rw [if_pos z, if_pos z]
      show (if b < 24 then S 12 b 0 else 8) = S 12 b 0
      rw [if_pos (by omega)]
    · rw [if_neg z, if_neg z]
  have hf : ∀ e, e < S 1 0 0 → M 72 e = hv (if e < 24 then S 12 e 0 else 8) := fun e he => by rw [if_pos (by omega)]; exact h72 e he
  rcases hx with hM | hM
  · refine SM_becomes_72 hM hf hf8 (fun M' hE hM' => ?_)
    rw [hsame, hoS_self] at hM'
    exact h M' hE hM'
  · have e1 : hoS S f (S 1 0 0) 1 0 0 = S 1 0 0 := by rw [hoS_oth (by decide)]
    refine SM_becomes_72 hM (by rw [e1]; exact hf) hf8 (fun M' hE hM' => ?_)
    rw [e1, hsame, hoS_back] at hM'
    exact h M' hE hM'
theorem SM_toR {d : Nat} {M : Mm} {S : BS} {Q : Po} {f : Nat → Nat} (hx : MKx (M 58) S f) (h71 : ∀ e, e < S 1 0 0 → M 71 e = hv (f e)) (hf8 : ∀ e, f e ≤ 8) (h : ∀ M', EqO [58] M M' → MK (M' 58) (hoS S f (S 1 0 0)) → Q M' none) : Call (d + 1) mM_becomes [.ref 57, .ref 71] M Q := by
  rcases hx with hM | hM
  · exact SM_becomes_71 hM h71 hf8 h
  · have e1 : hoS S f (S 1 0 0) 1 0 0 = S 1 0 0 := by rw [hoS_oth (by decide)]
    refine SM_becomes_71 hM (by rw [e1]; exact h71) hf8 (fun M' hE hM' => ?_)
    rw [e1, hoS_two] at hM'
    exact h M' hE hM'
theorem held_hoS (S : BS) (f : Nat → Nat) (q k : Nat) : heldN (hoS S f (S 1 0 0)) q k = heldF S f q k := by
  unfold heldN heldF
  rw [show hoS S f (S 1 0 0) 1 0 0 = S 1 0 0 from by rw [hoS_oth (by decide)], hoS_oth (a := 11) (by decide)]
  refine cnt_cong (fun x hx => ?_)
  dsimp only
  rw [hoS_ho hx]
theorem load_hoS (S : BS) (f : Nat → Nat) (p k : Nat) : loadF (hoS S f (S 1 0 0)) (hoF (hoS S f (S 1 0 0))) p k = loadF S f p k := by
  have h1 := held_hoS S f p k
  unfold heldN at h1
  unfold loadF headN
  rw [show heldF (hoS S f (S 1 0 0)) (hoF (hoS S f (S 1 0 0))) p k = heldF S f p k from h1, hoS_oth (a := 5) (by decide), hoS_oth (a := 3) (by decide)]
theorem hr_hoS (S : BS) (f : Nat → Nat) : hr (hoS S f (S 1 0 0)) = hr S := by
  funext p
  unfold hr
  rw [hoS_oth (by decide)]
theorem vec_hoS (S : BS) (f : Nat → Nat) (k : Nat) : ∀ n, vecV (hoS S f (S 1 0 0)) (hoF (hoS S f (S 1 0 0))) k n = vecV S f k n
  | 0 => rfl
  | n + 1 => by rw [vecV, vecV, vec_hoS S f k n, hr_hoS, load_hoS]
def cmpD (v w : Nat → Nat) (n : Nat) : Int32 := if cmpI v w n = n then nI 0 else nI (v (cmpI v w n)) - nI (w (cmpI v w n))
theorem sub_lt {a b : Nat} (ha : a ≤ 1025) (hb : b ≤ 1025) : (nI a - nI b).toInt = (a : Int) - (b : Int) := by
  rw [Int32.toInt_sub, nI_toInt (by omega), nI_toInt (by omega), Int.bmod_def]
  split <;> omega
theorem cmpI_at {v w : Nat → Nat} {n : Nat} (h : cmpI v w n ≠ n) : cmpI v w n < n ∧ v (cmpI v w n) ≠ w (cmpI v w n) := by
  have hle : cmpI v w n ≤ n := fstN_le _ _
  refine ⟨by omega, fun z => h ?_⟩
  have : ∀ m, m ≤ n → (∀ j, j < m → (!(v j == w j)) = false) ∨ ∃ i, i < m ∧ (!(v i == w i)) = true ∧ ∀ j, j < i → (!(v j == w j)) = false := by
    intro m
    induction m with
    | zero => exact fun _ => Or.inl (fun j hj => absurd hj (by omega))
    | succ m ih =>
      intro hm
      rcases ih (by omega) with y | ⟨i, y1, y2, y3⟩
      · cases hc : (!(v m == w m)) with
        | false =>
          refine Or.inl (fun j hj => ?_)
          by_cases e : j = m
          · rw [e]; exact hc
          · exact y j (by omega)
        | true => exact Or.inr ⟨m, by omega, hc, y⟩
      · exact Or.inr ⟨i, by omega, y2, y3⟩
  rcases this n (Nat.le_refl _) with y | ⟨i, y1, y2, y3⟩
  · exact fstN_eq y (Nat.le_refl _)
  · have e : cmpI v w n = i := fstN_hit (f := fun j => !(v j == w j)) y3 y2 y1
    rw [e] at z
    rw [z] at y2
    simp at y2
theorem cmp_DV {v w : Nat → Nat} {n : Nat} (hv : ∀ j, j < n → v j ≤ 1025) (hw : ∀ j, j < n → w j ≤ 1025) : (cmpD v w n < 0 ↔ cmpV v w n < 0) ∧ (cmpD v w n ≤ 0 ↔ cmpV v w n ≤ 0) ∧ (cmpV v w n = nI 0 ↔ (¬ cmpD v w n < 0 ∧ cmpD v w n ≤ 0)) := by
  unfold cmpD cmpV
  by_cases e : cmpI v w n = n
  · rw [if_pos e, if_pos e]
    exact ⟨Iff.rfl, Iff.rfl, by decide⟩
  · rw [if_neg e, if_neg e]
    obtain ⟨h1, h2⟩ := cmpI_at e
    have b1 := hv _ h1
    have b2 := hw _ h1
    have hs := sub_lt b1 b2
    have h0 : (0 : Int32).toInt = 0 := by decide
    rw [Int32.lt_iff_toInt_lt, Int32.le_iff_toInt_le, hs, h0]
    by_cases z : v (cmpI v w n) < w (cmpI v w n)
    · rw [if_pos z]
      refine ⟨⟨fun _ => by decide, fun _ => by omega⟩, ⟨fun _ => by decide, fun _ => by omega⟩, ⟨fun y => absurd y (by decide), fun y => by omega⟩⟩
    · rw [if_neg z]
      refine ⟨⟨fun _ => by omega, fun y => absurd y (by decide)⟩, ⟨fun _ => by omega, fun y => absurd y (by decide)⟩, ⟨fun y => absurd y (by decide), fun y => by omega⟩⟩
theorem SM_compares {d : Nat} {M : Mm} {S : BS} {Q : Po} {f : Nat → Nat} (hx : MKx (M 58) S f) (hW : WF S) (h71 : ∀ e, e < S 1 0 0 → M 71 e = hv (f e)) (h72 : ∀ e, e < S 1 0 0 → M 72 e = hv (S 12 e 0)) (hf8 : ∀ e, f e ≤ 8) {k : Nat} (hk : k < 4) (h : ∀ M', EqQ [58, 66, 73] M M' → MK (M' 58) (hoS S f (S 1 0 0)) → Q M' (some (.int (cmpD (vecV S f k (S 0 0 0)) (vecV S (hoF S) k (S 0 0 0)) (cnt (hr S) (S 0 0 0)))))) : Call (d + 6) mM_compares [.ref 57, .int (nI k)] M Q := by
  have hw := hW.np
  have hcl := cnt_le (hr S) (S 0 0 0)
  have hv1 := vecV_le hW f hk (n := S 0 0 0) (Nat.le_refl _)
  have hv2 := vecV_le hW (hoF S) hk (n := S 0 0 0) (Nat.le_refl _)
  have e0 : hoS S f (S 1 0 0) 0 0 0 = S 0 0 0 := by rw [hoS_oth (by decide)]
  refine Call_of (m := mM_compares) [some (.ref 57), some (.int (nI k)), none] rfl (fun G => Nat.le_of_ble_eq_true rfl) (fun G => rfl) ?_
  refine g_aload_n dX10_compares_0 rfl ?_
  refine g_aload_n dX10_compares_1 rfl ?_
  refine g_getr (j := 28) dX10_compares_2 gc10 rfl (by decide) rfl (by decide) fl_M_53 ?_
  refine g_call1 dX10_compares_5 clM_becomes ml_M_330 gc10 rfl rfl (by decide) (Nat.le_of_ble_eq_true rfl) ?_
  refine SM_toB hx hW h72 (fun M1 hE1 hM1 => ?_)
  refine g_aload_n dX10_compares_8 rfl ?_
  refine g_iload_n dX10_compares_9 rfl ?_
  refine g_call1 dX10_compares_10 clM_vectors ml_M_183 gc10 rfl rfl (by decide) (Nat.le_of_ble_eq_true rfl) ?_
  refine SM_vectors hM1 hk (fun M2 hE2 h11 hr2 => ?_)
  refine g_iconst (nI 0) dX10_compares_13 ki_0 ?_
  refine g_ist3_2 dX10_compares_14 (by decide) rfl ?_
  refine loop_up (P := fun i => ∀ M', EqQ [73] M2 M' → (∀ j, j < i → M' 73 j = nI (vecV S (hoF S) k (S 0 0 0) j)) → M' 57 11 = nI (cnt (hr S) (S 0 0 0)) → Go mM_compares (d + 6) Q 15 [some (.ref 57), some (.int (nI k)), some (.int (nI i))] [] M') (cnt (hr S) (S 0 0 0)) ?_ 0 (Nat.zero_le _) M2 EqQ.rf (fun j hj => absurd hj (by omega)) h11
  intro i hi ih M3 hE3 h73 h11'
  refine g_iload_n dX10_compares_15 rfl ?_
  refine g_aload_n dX10_compares_16 rfl ?_
  refine g_geti (j := 11) dX10_compares_17 gc10 rfl (by decide) rfl (by decide) fl_M_180 ?_
  try simp (disch := omega) only [h11']
  refine g_icmp_ge_n 41 dX10_compares_20 (by decide) (by omega) (by omega) (fun c20 => ?_) (fun c20 => ?_)
  · have h73 : ∀ j, j < cnt (hr S) (S 0 0 0) → M3 73 j = nI (vecV S (hoF S) k (S 0 0 0) j) := fun j hj => h73 j (by omega)
    have hE4 : EqQ [58, 66, 73] M M3 := ((EqQ.ofO hE1).sub (by decide)).tr ((hE2.sub (by decide)).tr (hE3.sub (by decide)))
    have hM3 : MK (M3 58) S := by rw [hE3.row (by decide) (by decide), hE2.row (by decide) (by decide)]; exact hM1
    have g71 : ∀ e, e < S 1 0 0 → M3 71 e = hv (f e) := fun e he => by rw [hE4.row (by decide) (by decide)]; exact h71 e he
    clear ih h11' h11 hr2
    refine g_aload_n dX10_compares_41 rfl ?_
    refine g_aload_n dX10_compares_42 rfl ?_
    refine g_getr (j := 27) dX10_compares_43 gc10 rfl (by decide) rfl (by decide) fl_M_50 ?_
    refine g_call1 dX10_compares_46 clM_becomes ml_M_330 gc10 rfl rfl (by decide) (Nat.le_of_ble_eq_true rfl) ?_
    refine SM_toR (Or.inl hM3) g71 hf8 (fun M5 hE5 hM5 => ?_)
    refine g_aload_n dX10_compares_49 rfl ?_
    refine g_iload_n dX10_compares_50 rfl ?_
    refine g_call1 dX10_compares_51 clM_vectors ml_M_183 gc10 rfl rfl (by decide) (Nat.le_of_ble_eq_true rfl) ?_
    refine SM_vectors hM5 hk (fun M6 hE6 h11 hr6 => ?_)
    rw [hr_hoS, e0] at h11 hr6
    rw [vec_hoS] at hr6
    have hE7 : EqQ [58, 66, 73] M M6 := hE4.tr (((EqQ.ofO hE5).sub (by decide)).tr (hE6.sub (by decide)))
    have h := h M6 hE7 (by rw [hE6.row (by decide) (by decide)]; exact hM5)
    have g73 : ∀ j, j < cnt (hr S) (S 0 0 0) → M6 73 j = nI (vecV S (hoF S) k (S 0 0 0) j) := fun j hj => by rw [hE6.row (by decide) (by decide), hE5 73 (by decide)]; exact h73 j hj
    clear h73
    generalize vecV S f k (S 0 0 0) = v at hr6 h hv1
    generalize vecV S (hoF S) k (S 0 0 0) = w at g73 h hv2
    generalize cnt (hr S) (S 0 0 0) = n at hr6 g73 h hv1 hv2 hcl h11
    refine g_iconst (nI 0) dX10_compares_54 ki_0 ?_
    refine g_ist3_2 dX10_compares_55 (by decide) rfl ?_
    refine loop_up (P := fun i => (∀ j, j < i → (!(v j == w j)) = false) → Go mM_compares (d + 6) Q 56 [some (.ref 57), some (.int (nI k)), some (.int (nI i))] [] M6) n ?_ 0 (Nat.zero_le _) (fun j hj => absurd hj (by omega))
    intro i hi ih hno
    refine g_iload_n dX10_compares_56 rfl ?_
    refine g_aload_n dX10_compares_57 rfl ?_
    refine g_geti (j := 11) dX10_compares_58 gc10 rfl (by decide) rfl (by decide) fl_M_180 ?_
    try simp (disch := omega) only [h11, hr6, g73]
    refine g_icmp_ge_n 99 dX10_compares_61 (by decide) (by omega) (by omega) (fun c61 => ?_) (fun c61 => ?_)
    · have e1 : cmpI v w n = n := fstN_eq (f := fun j => !(v j == w j)) hno (by omega)
      rw [cmpD, if_pos e1] at h
      refine g_iconst (nI 0) dX10_compares_99 ki_0 ?_
      refine g_ireturn dX10_compares_100 rfl (by first | rfl | exact nar_bI _) ?_
      exact h
    · have b1 := hv1 i (by omega)
      have b2 := hv2 i (by omega)
      refine g_aload_n dX10_compares_64 rfl ?_
      refine g_getr (j := 10) dX10_compares_65 gc10 rfl (by decide) rfl (by decide) fl_M_35 ?_
      refine g_iload_n dX10_compares_68 rfl ?_
      refine g_iald_n dX10_compares_69 (by first | rfl | assumption) (by first | decide | assumption) (by omega) (by omega) ?_
      try simp (disch := omega) only [h11, hr6, g73]
      refine g_aload_n dX10_compares_70 rfl ?_
      refine g_getr (j := 29) dX10_compares_71 gc10 rfl (by decide) rfl (by decide) fl_M_56 ?_
      refine g_iload_n dX10_compares_74 rfl ?_
      refine g_iald_n dX10_compares_75 (by first | rfl | assumption) (by first | decide | assumption) (by omega) (by omega) ?_
      try simp (disch := omega) only [h11, hr6, g73]
      refine g_icmp_eq_n 93 dX10_compares_76 (by decide) (by omega) (by omega) (fun c76 => ?_) (fun c76 => ?_)
      · first | refine g_incn3_2 dX10_compares_93 ki_1 (by decide) rfl ?_ | refine g_incg3_2 (nI 1) dX10_compares_93 ki_1 (by decide) rfl ?_
        refine g_goto 56 dX10_compares_96 (by decide) ?_
        refine ih (by omega) (fun j hj => ?_)
        by_cases e : j = i
        · rw [e, c76]; simp
        · exact hno j (by omega)
      · have e1 : cmpI v w n = i := fstN_hit (f := fun j => !(v j == w j)) hno (by simp [c76]) (by omega)
        rw [cmpD, e1, if_neg (by omega)] at h
        refine g_aload_n dX10_compares_79 rfl ?_
        refine g_getr (j := 10) dX10_compares_80 gc10 rfl (by decide) rfl (by decide) fl_M_35 ?_
        refine g_iload_n dX10_compares_83 rfl ?_
        refine g_iald_n dX10_compares_84 (by first | rfl | assumption) (by first | decide | assumption) (by omega) (by omega) ?_
        try simp (disch := omega) only [h11, hr6, g73]
        refine g_aload_n dX10_compares_85 rfl ?_
        refine g_getr (j := 29) dX10_compares_86 gc10 rfl (by decide) rfl (by decide) fl_M_56 ?_
        refine g_iload_n dX10_compares_89 rfl ?_
        refine g_iald_n dX10_compares_90 (by first | rfl | assumption) (by first | decide | assumption) (by omega) (by omega) ?_
        try simp (disch := omega) only [h11, hr6, g73]
        refine g_isub dX10_compares_91 ?_
        refine g_ireturn dX10_compares_92 rfl (by first | rfl | exact nar_bI _) ?_
        exact h
  · have e66 : M3 66 i = nI (vecV S (hoF S) k (S 0 0 0) i) := by rw [hE3.row (by decide) (by decide)]; exact hr2 i (by omega)
    refine g_aload_n dX10_compares_23 rfl ?_
    refine g_getr (j := 29) dX10_compares_24 gc10 rfl (by decide) rfl (by decide) fl_M_56 ?_
    refine g_iload_n dX10_compares_27 rfl ?_
    refine g_aload_n dX10_compares_28 rfl ?_
    refine g_getr (j := 10) dX10_compares_29 gc10 rfl (by decide) rfl (by decide) fl_M_35 ?_
    refine g_iload_n dX10_compares_32 rfl ?_
    refine g_iald_n dX10_compares_33 (by first | rfl | assumption) (by first | decide | assumption) (by omega) (by omega) ?_
    try simp (disch := omega) only [e66]
    refine g_iast_n dX10_compares_34 (by first | rfl | assumption) (by first | decide | assumption) (by omega) (by omega) ?_
    first | refine g_incn3_2 dX10_compares_35 ki_1 (by decide) rfl ?_ | refine g_incg3_2 (nI 1) dX10_compares_35 ki_1 (by decide) rfl ?_
    refine g_goto 15 dX10_compares_38 (by decide) ?_
    refine ih (by omega) _ (hE3.tr (EqQ.set (by decide))) (fun j hj => ?_) (by rw [mset_ne (by decide)]; exact h11')
    by_cases e : j = i
    · subst e; rw [mset_at]
    · rw [mset_off (by omega)]; exact h73 j (by omega)
theorem SM_remembers {d : Nat} {M : Mm} {S : BS} {Q : Po} (hM : MK (M 58) S) (h : ∀ M', EqO [72] M M' → (∀ e, e < S 1 0 0 → M' 72 e = hv (S 12 e 0)) → Q M' none) : Call (d + 2) mM_remembers [.ref 57] M Q := by
  have hw := hM.wf.nd
  refine Call_of (m := mM_remembers) [some (.ref 57), none] rfl (fun G => Nat.le_of_ble_eq_true rfl) (fun G => rfl) ?_
  refine g_iconst (nI 0) dX10_remembers_0 ki_0 ?_
  refine g_ist2_1 dX10_remembers_1 (by decide) rfl ?_
  refine loop_up (P := fun i => ∀ M', EqO [72] M M' → (∀ e, e < i → M' 72 e = hv (S 12 e 0)) → Go mM_remembers (d + 2) Q 2 [some (.ref 57), some (.int (nI i))] [] M') (S 1 0 0) ?_ 0 (Nat.zero_le _) M EqO.rf (fun e he => absurd he (by omega))
  intro i hi ih M' hE hc
  have hM' : MK (M' 58) S := by rw [hE 58 (by decide)]; exact hM
  refine g_iload_n dX10_remembers_2 rfl ?_
  refine g_aload_n dX10_remembers_3 rfl ?_
  refine g_getr (j := 0) dX10_remembers_4 gc10 rfl (by decide) rfl (by decide) fl_M_9 ?_
  refine g_iconst (nI 2) dX10_remembers_7 ki_2 ?_
  refine g_iald_n dX10_remembers_8 (by first | rfl | assumption) (by first | decide | assumption) (by omega) (by omega) ?_
  try simp (disch := omega) only [hM'.nd]
  refine g_icmp_ge_n 29 dX10_remembers_9 (by decide) (by omega) (by omega) (fun c9 => ?_) (fun c9 => ?_)
  · refine g_return dX10_remembers_29 rfl ?_
    exact h M' hE (fun e he => hc e (by omega))
  · refine g_aload_n dX10_remembers_12 rfl ?_
    refine g_getr (j := 28) dX10_remembers_13 gc10 rfl (by decide) rfl (by decide) fl_M_53 ?_
    refine g_iload_n dX10_remembers_16 rfl ?_
    refine g_aload_n dX10_remembers_17 rfl ?_
    refine g_iload_n dX10_remembers_18 rfl ?_
    refine g_call1 dX10_remembers_19 clM_holder ml_M_78 gc10 rfl rfl (by decide) (Nat.le_of_ble_eq_true rfl) ?_
    refine SM_holder hM' (by omega) ?_
    refine g_iast_n dX10_remembers_22 (by first | rfl | assumption) (by first | decide | assumption) (by omega) (by omega) ?_
    first | refine g_incn2_1 dX10_remembers_23 ki_1 (by decide) rfl ?_ | refine g_incg2_1 (nI 1) dX10_remembers_23 ki_1 (by decide) rfl ?_
    refine g_goto 2 dX10_remembers_26 (by decide) ?_
    refine ih (by omega) _ (hE.tr (EqO.set (by decide))) (fun e he => ?_)
    by_cases z : e = i
    · subst z; rw [mset_at]
    · rw [mset_off (by omega)]; exact hc e (by omega)
/-! judge, roster in the reference, both -/
/-- told from the last KIND on, of W's first that isn't 0 -/
def tlC (W : Nat → Int32) : Nat → Int32
  | 0 => -5
  | j + 1 => if W (3 - j) < 0 then nI (200 + (3 - j)) else if 0 < W (3 - j) then nI (300 + (3 - j)) else tlC W j
def tlO (B : Nat → Bool) (T : Int32) : Nat → Int32
  | 0 => T
  | j + 1 => if B (3 - j) = true then nI (100 + (3 - j)) else tlO B T j
theorem tlC_eq (W : Nat → Int32) : tlC W 4 = if fstN (fun k => !(W k == nI 0)) 4 = 4 then -5 else if W (fstN (fun k => !(W k == nI 0)) 4) < 0 then nI (200 + fstN (fun k => !(W k == nI 0)) 4) else nI (300 + fstN (fun k => !(W k == nI 0)) 4) := by
  have h0 : ∀ k, (!(W k == nI 0)) = false → ¬ W k < 0 ∧ ¬ 0 < W k := fun k hk => by
    have hk : W k = nI 0 := by simpa using hk
    rw [hk]
    decide
  have h1 : ∀ k, (!(W k == nI 0)) = true → ¬ W k < 0 → 0 < W k := fun k hk hn => by
    have hk : ¬ W k = nI 0 := by simpa using hk
    rw [Int32.lt_iff_toInt_lt] at hn ⊢
    have h0 : (0 : Int32).toInt = 0 := by decide
    have h2 : (W k).toInt ≠ 0 := fun z => hk (Int32.toInt_inj.mp (by rw [z]; decide))
    omega
  by_cases c0 : (!(W 0 == nI 0)) = true
  · rw [fstN_hit (i := 0) (fun j hj => absurd hj (by omega)) c0 (by omega), if_neg (by omega)]
    show (if W 0 < 0 then _ else if 0 < W 0 then _ else _) = _
    by_cases z : W 0 < 0
    · rw [if_pos z, if_pos z]
    · rw [if_neg z, if_neg z, if_pos (h1 0 c0 z)]
  · have c0 := Bool.eq_false_iff.mpr c0
    rw [show tlC W 4 = tlC W 3 from by
      show (if W 0 < 0 then _ else if 0 < W 0 then _ else tlC W 3) = _
      rw [if_neg (h0 0 c0).1, if_neg (h0 0 c0).2]]
    by_cases c1 : (!(W 1 == nI 0)) = true
    · rw [fstN_hit (i := 1) (fun j hj => by rw [show j = 0 by omega]; exact c0) c1 (by omega), if_neg (by omega)]
      show (if W 1 < 0 then _ else if 0 < W 1 then _ else _) = _
      by_cases z : W 1 < 0
      · rw [if_pos z, if_pos z]
      · rw [if_neg z, if_neg z, if_pos (h1 1 c1 z)]
    · have c1 := Bool.eq_false_iff.mpr c1
      rw [show tlC W 3 = tlC W 2 from by
        show (if W 1 < 0 then _ else if 0 < W 1 then _ else tlC W 2) = _
        rw [if_neg (h0 1 c1).1, if_neg (h0 1 c1).2]]
      by_cases c2 : (!(W 2 == nI 0)) = true
      · rw [fstN_hit (i := 2) (fun j hj => by
          rcases (show j = 0 ∨ j = 1 by omega) with e | e
          · rw [e]; exact c0
          · rw [e]; exact c1) c2 (by omega), if_neg (by omega)]
        show (if W 2 < 0 then _ else if 0 < W 2 then _ else _) = _
        by_cases z : W 2 < 0
        · rw [if_pos z, if_pos z]
        · rw [if_neg z, if_neg z, if_pos (h1 2 c2 z)]
      · have c2 := Bool.eq_false_iff.mpr c2
        rw [show tlC W 2 = tlC W 1 from by
          show (if W 2 < 0 then _ else if 0 < W 2 then _ else tlC W 1) = _
          rw [if_neg (h0 2 c2).1, if_neg (h0 2 c2).2]]
        by_cases c3 : (!(W 3 == nI 0)) = true
        · rw [fstN_hit (i := 3) (fun j hj => by
            rcases (show j = 0 ∨ j = 1 ∨ j = 2 by omega) with e | e | e
            · rw [e]; exact c0
            · rw [e]; exact c1
            · rw [e]; exact c2) c3 (by omega), if_neg (by omega)]
          show (if W 3 < 0 then _ else if 0 < W 3 then _ else _) = _
          by_cases z : W 3 < 0
          · rw [if_pos z, if_pos z]
          · rw [if_neg z, if_neg z, if_pos (h1 3 c3 z)]
        · have c3 := Bool.eq_false_iff.mpr c3
          rw [fstN_eq (i := 4) (fun j hj => by
            rcases (show j = 0 ∨ j = 1 ∨ j = 2 ∨ j = 3 by omega) with e | e | e | e
            · rw [e]; exact c0
            · rw [e]; exact c1
            · rw [e]; exact c2
            · rw [e]; exact c3) (Nat.le_refl 4), if_pos rfl]
          show (if W 3 < 0 then _ else if 0 < W 3 then _ else (-5 : Int32)) = _
          rw [if_neg (h0 3 c3).1, if_neg (h0 3 c3).2]
theorem tlO_eq (B : Nat → Bool) (T : Int32) : tlO B T 4 = if fstN B 4 = 4 then T else nI (100 + fstN B 4) := by
  by_cases c0 : B 0 = true
  · rw [fstN_hit (i := 0) (fun j hj => absurd hj (by omega)) c0 (by omega), if_neg (by omega)]
    show (if B 0 = true then _ else _) = _
    rw [if_pos c0]
  · have d0 := Bool.eq_false_iff.mpr c0
    rw [show tlO B T 4 = tlO B T 3 from by
      show (if B 0 = true then _ else tlO B T 3) = _
      rw [if_neg c0]]
    by_cases c1 : B 1 = true
    · rw [fstN_hit (i := 1) (fun j hj => by rw [show j = 0 by omega]; exact d0) c1 (by omega), if_neg (by omega)]
      show (if B 1 = true then _ else _) = _
      rw [if_pos c1]
    · have d1 := Bool.eq_false_iff.mpr c1
      rw [show tlO B T 3 = tlO B T 2 from by
        show (if B 1 = true then _ else tlO B T 2) = _
        rw [if_neg c1]]
      by_cases c2 : B 2 = true
      · rw [fstN_hit (i := 2) (fun j hj => by
          rcases (show j = 0 ∨ j = 1 by omega) with e | e
          · rw [e]; exact d0
          · rw [e]; exact d1) c2 (by omega), if_neg (by omega)]
        show (if B 2 = true then _ else _) = _
        rw [if_pos c2]
      · have d2 := Bool.eq_false_iff.mpr c2
        rw [show tlO B T 2 = tlO B T 1 from by
          show (if B 2 = true then _ else tlO B T 1) = _
          rw [if_neg c2]]
        by_cases c3 : B 3 = true
        · rw [fstN_hit (i := 3) (fun j hj => by
            rcases (show j = 0 ∨ j = 1 ∨ j = 2 by omega) with e | e | e
            · rw [e]; exact d0
            · rw [e]; exact d1
            · rw [e]; exact d2) c3 (by omega), if_neg (by omega)]
          show (if B 3 = true then _ else _) = _
          rw [if_pos c3]
        · have d3 := Bool.eq_false_iff.mpr c3
          rw [fstN_eq (i := 4) (fun j hj => by
            rcases (show j = 0 ∨ j = 1 ∨ j = 2 ∨ j = 3 by omega) with e | e | e | e
            · rw [e]; exact d0
            · rw [e]; exact d1
            · rw [e]; exact d2
            · rw [e]; exact d3) (Nat.le_refl 4), if_pos rfl]
          show (if B 3 = true then _ else T) = _
          rw [if_neg c3]
/-- a counter that goes down to -1 -/
def dn (j : Nat) : Int32 := if j < 4 then nI (3 - j) else -1
theorem SM_judged {d : Nat} {M : Mm} {S : BS} {Q : Po} {f : Nat → Nat} (hM : MK (M 58) S) (h62 : ∀ j, j < S 1 0 0 → M 62 j = nI (sd S j)) (h71 : ∀ e, e < S 1 0 0 → M 71 e = hv (f e)) (h72 : ∀ e, e < S 1 0 0 → M 72 e = hv (S 12 e 0)) (hf8 : ∀ e, f e ≤ 8) (h : ∀ M', EqQ [58, 66, 73] M M' → MK (M' 58) S → Q M' (some (.int (if barI S f = S 1 0 0 then jdV S f else barV S f)))) : Call (d + 7) mM_judged [.ref 57] M Q := by
  have hW := hM.wf
  have hw := hW.nd
  have hv1 := fun k (hk : k < 4) => vecV_le hW f hk (n := S 0 0 0) (Nat.le_refl _)
  have hv2 := fun k (hk : k < 4) => vecV_le hW (hoF S) hk (n := S 0 0 0) (Nat.le_refl _)
  have e1 : hoS S f (S 1 0 0) 1 0 0 = S 1 0 0 := by rw [hoS_oth (by decide)]
  refine Call_of (m := mM_judged) [some (.ref 57), none, none, none, none] rfl (fun G => Nat.le_of_ble_eq_true rfl) (fun G => rfl) ?_
  refine g_aload_n dX10_judged_0 rfl ?_
  refine g_call0 dX10_judged_1 clM_firstBarred ml_M_334 gc10 rfl rfl (by decide) (Nat.le_of_ble_eq_true rfl) ?_
  refine SM_firstBarred hM h62 h71 hf8 ?_
  by_cases hb : barI S f = S 1 0 0
  · rw [if_pos hb] at h
    rw [barV, if_pos hb]
    refine g_ist5_1 dX10_judged_4 (by decide) rfl ?_
    refine g_iload_n dX10_judged_5 rfl ?_
    refine g_if_lt 11 dX10_judged_6 (by decide) (fun c6 => ?_) (fun c6 => ?_)
    · refine g_bipush ((-5)) dX10_judged_11 kb_m5 ?_
      refine g_ist5_2 dX10_judged_13 (by decide) rfl ?_
      refine g_iconst (nI 3) dX10_judged_14 ki_3 ?_
      refine g_ist5_3 dX10_judged_15 (by decide) rfl ?_
      suffices hloop : ∀ i j M', i + j = 4 → EqQ [58, 66, 73] M M' → MKx (M' 58) S f → Go mM_judged (d + 7) Q 16 [some (.ref 57), some (.int (-1)), some (.int (tlC (jdW S f) j)), some (.int (dn j)), none] [] M' by
        exact hloop 4 0 M rfl EqQ.rf (Or.inl hM)
      intro i
      induction i with
      | zero =>
        intro j M' hj hE hx
        obtain rfl : j = 4 := by omega
        have g71 : ∀ e, e < S 1 0 0 → M' 71 e = hv (f e) := fun e he => by rw [hE.row (by decide) (by decide)]; exact h71 e he
        have g72 : ∀ e, e < S 1 0 0 → M' 72 e = hv (S 12 e 0) := fun e he => by rw [hE.row (by decide) (by decide)]; exact h72 e he
        rw [show dn 4 = -1 from rfl]
        refine g_iload_n dX10_judged_16 rfl ?_
        refine g_if_lt 61 dX10_judged_17 (by decide) (fun c17 => ?_) (fun c17 => ?_)
        · skip
          refine g_iconst (nI 3) dX10_judged_61 ki_3 ?_
          refine g_ist5_3 dX10_judged_62 (by decide) rfl ?_
          suffices hloop2 : ∀ i j M', i + j = 4 → EqQ [58, 66, 73] M M' → MKx (M' 58) S f → Go mM_judged (d + 7) Q 63 [some (.ref 57), some (.int (-1)), some (.int (tlO (fun k => decide (heldN S 8 k < heldF S f 8 k)) (tlC (jdW S f) 4) j)), some (.int (dn j)), none] [] M' by
            exact hloop2 4 0 M' rfl hE hx
          clear hE hx g71 g72 M'
          intro i
          induction i with
          | zero =>
            intro j M' hj hE hx
            obtain rfl : j = 4 := by omega
            have g72 : ∀ e, e < S 1 0 0 → M' 72 e = hv (S 12 e 0) := fun e he => by rw [hE.row (by decide) (by decide)]; exact h72 e he
            rw [show dn 4 = -1 from rfl]
            refine g_iload_n dX10_judged_63 rfl ?_
            refine g_if_lt 115 dX10_judged_64 (by decide) (fun c64 => ?_) (fun c64 => ?_)
            · refine g_aload_n dX10_judged_115 rfl ?_
              refine g_aload_n dX10_judged_116 rfl ?_
              refine g_getr (j := 28) dX10_judged_117 gc10 rfl (by decide) rfl (by decide) fl_M_53 ?_
              refine g_call1 dX10_judged_120 clM_becomes ml_M_330 gc10 rfl rfl (by decide) (Nat.le_of_ble_eq_true rfl) ?_
              refine SM_toB hx hW g72 (fun M2 hE2 hM2 => ?_)
              refine g_iload_n dX10_judged_123 rfl ?_
              refine g_ireturn dX10_judged_124 rfl (by first | rfl | exact nar_bI _) ?_
              have h := h M2 (hE.tr ((EqQ.ofO hE2).sub (by decide))) hM2
              rw [tlO_eq, tlC_eq]
              exact h
            · exact absurd (show (-1 : Int32) < 0 from by decide) c64
          | succ i ih =>
            intro j M' hj hE hx
            have hj4 : j < 4 := by omega
            have hdn : dn j = nI (3 - j) := if_pos hj4
            have g71 : ∀ e, e < S 1 0 0 → M' 71 e = hv (f e) := fun e he => by rw [hE.row (by decide) (by decide)]; exact h71 e he
            have g72 : ∀ e, e < S 1 0 0 → M' 72 e = hv (S 12 e 0) := fun e he => by rw [hE.row (by decide) (by decide)]; exact h72 e he
            have ih := fun M' => ih (j + 1) M' (by omega)
            have hdec : nI (3 - j) + -1 = dn (j + 1) := by
              unfold dn
              rcases (show j = 0 ∨ j = 1 ∨ j = 2 ∨ j = 3 by omega) with e | e | e | e <;> subst e <;> decide
            rw [tlO] at ih
            rw [hdn]
            refine g_iload_n dX10_judged_63 rfl ?_
            refine g_if_lt_n 115 dX10_judged_64 (by decide) (by omega) ?_
            refine g_aload_n dX10_judged_67 rfl ?_
            refine g_aload_n dX10_judged_68 rfl ?_
            refine g_getr (j := 28) dX10_judged_69 gc10 rfl (by decide) rfl (by decide) fl_M_53 ?_
            refine g_call1 dX10_judged_72 clM_becomes ml_M_330 gc10 rfl rfl (by decide) (Nat.le_of_ble_eq_true rfl) ?_
            refine SM_toB hx hW g72 (fun M2 hE2 hM2 => ?_)
            have hl2 : heldN S 8 (3 - j) ≤ S 1 0 0 := heldF_le S _ 8 (3 - j)
            have hl1 := heldF_le S f 8 (3 - j)
            refine g_aload_n dX10_judged_75 rfl ?_
            refine g_iload_n dX10_judged_76 rfl ?_
            refine g_call1 dX10_judged_77 clM_openIn ml_M_340 gc10 rfl rfl (by decide) (Nat.le_of_ble_eq_true rfl) ?_
            refine SM_openIn hM2 (by omega) ?_
            refine g_ist5_4 dX10_judged_80 (by decide) rfl ?_
            refine g_aload_n dX10_judged_82 rfl ?_
            refine g_aload_n dX10_judged_83 rfl ?_
            refine g_getr (j := 27) dX10_judged_84 gc10 rfl (by decide) rfl (by decide) fl_M_50 ?_
            refine g_call1 dX10_judged_87 clM_becomes ml_M_330 gc10 rfl rfl (by decide) (Nat.le_of_ble_eq_true rfl) ?_
            refine SM_toR (Or.inl hM2) (fun e he => by rw [hE2 71 (by decide)]; exact g71 e he) hf8 (fun M3 hE3 hM3 => ?_)
            refine g_aload_n dX10_judged_90 rfl ?_
            refine g_iload_n dX10_judged_91 rfl ?_
            refine g_call1 dX10_judged_92 clM_openIn ml_M_340 gc10 rfl rfl (by decide) (Nat.le_of_ble_eq_true rfl) ?_
            refine SM_openIn hM3 (by omega) ?_
            rw [held_hoS]
            have ih := ih M3 (hE.tr (((EqQ.ofO hE2).sub (by decide)).tr ((EqQ.ofO hE3).sub (by decide)))) (Or.inr hM3)
            refine g_iload dX10_judged_95 rfl ?_
            refine g_icmp_le_n 107 dX10_judged_97 (by decide) (by omega) (by omega) (fun c97 => ?_) (fun c97 => ?_)
            · rw [if_neg (by rw [decide_eq_true_eq]; omega)] at ih
              refine g_iload_n dX10_judged_107 rfl ?_
              refine g_ist5_2 dX10_judged_108 (by decide) rfl ?_
              refine g_incg5_3 (-1) dX10_judged_109 ki_m1 (by decide) rfl ?_
              rw [hdec]
              refine g_goto 63 dX10_judged_112 (by decide) ?_
              exact Go_sub [some (.ref 57), some (.int (-1)), some (.int (tlO (fun k => decide (heldN S 8 k < heldF S f 8 k)) (tlC (jdW S f) 4) j)), some (.int (dn (j + 1))), none] (by simp [subL]) ih
            · rw [if_pos (by rw [decide_eq_true_eq]; omega)] at ih
              refine g_bipush (nI 100) dX10_judged_100 kb_100 ?_
              refine g_iload_n dX10_judged_102 rfl ?_
              first | refine g_iadd_n dX10_judged_103 ?_ | refine g_iadd dX10_judged_103 ?_
              refine g_goto 108 dX10_judged_104 (by decide) ?_
              refine g_ist5_2 dX10_judged_108 (by decide) rfl ?_
              refine g_incg5_3 (-1) dX10_judged_109 ki_m1 (by decide) rfl ?_
              rw [hdec]
              refine g_goto 63 dX10_judged_112 (by decide) ?_
              exact Go_sub [some (.ref 57), some (.int (-1)), some (.int (nI (100 + (3 - j)))), some (.int (dn (j + 1))), none] (by simp [subL]) ih
        · exact absurd (show (-1 : Int32) < 0 from by decide) c17
      | succ i ih =>
        intro j M' hj hE hx
        have hj4 : j < 4 := by omega
        have hdn : dn j = nI (3 - j) := if_pos hj4
        have g71 : ∀ e, e < S 1 0 0 → M' 71 e = hv (f e) := fun e he => by rw [hE.row (by decide) (by decide)]; exact h71 e he
        have g72 : ∀ e, e < S 1 0 0 → M' 72 e = hv (S 12 e 0) := fun e he => by rw [hE.row (by decide) (by decide)]; exact h72 e he
        have ih := fun M' => ih (j + 1) M' (by omega)
        have hdec : nI (3 - j) + -1 = dn (j + 1) := by
          unfold dn
          rcases (show j = 0 ∨ j = 1 ∨ j = 2 ∨ j = 3 by omega) with e | e | e | e <;> subst e <;> decide
        rw [tlC] at ih
        rw [hdn]
        refine g_iload_n dX10_judged_16 rfl ?_
        refine g_if_lt_n 61 dX10_judged_17 (by decide) (by omega) ?_
        refine g_aload_n dX10_judged_20 rfl ?_
        refine g_iload_n dX10_judged_21 rfl ?_
        refine g_call1 dX10_judged_22 clM_compares ml_M_337 gc10 rfl rfl (by decide) (Nat.le_of_ble_eq_true rfl) ?_
        refine SM_compares hx hW g71 g72 hf8 (by omega) (fun M2 hE2 hM2 => ?_)
        have ih := ih M2 (hE.tr hE2) (Or.inr hM2)
        obtain ⟨x1, x2, x3⟩ := cmp_DV (hv1 (3 - j) (by omega)) (hv2 (3 - j) (by omega))
        unfold jdW at ih
        generalize cmpV (vecV S f (3 - j) (S 0 0 0)) (vecV S (hoF S) (3 - j) (S 0 0 0)) (cnt (hr S) (S 0 0 0)) = V at ih x1 x2 x3
        generalize cmpD (vecV S f (3 - j) (S 0 0 0)) (vecV S (hoF S) (3 - j) (S 0 0 0)) (cnt (hr S) (S 0 0 0)) = D at x1 x2 x3 ⊢
        have hgo : ∀ (T : Int32) (w : Option Value), Go mM_judged (d + 7) Q 16 [some (.ref 57), some (.int (-1)), some (.int T), some (.int (dn (j + 1))), none] [] M2 → Go mM_judged (d + 7) Q 55 [some (.ref 57), some (.int (-1)), some (.int T), some (.int (nI (3 - j))), some (.int D)] [] M2 := by
          intro T w hg
          refine g_incg5_3 (-1) dX10_judged_55 ki_m1 (by decide) rfl ?_
          rw [hdec]
          refine g_goto 16 dX10_judged_58 (by decide) ?_
          exact Go_sub [some (.ref 57), some (.int (-1)), some (.int T), some (.int (dn (j + 1))), none] (by simp [subL]) hg
        refine g_ist5_4 dX10_judged_25 (by decide) rfl ?_
        refine g_iload dX10_judged_27 rfl ?_
        refine g_if_ge 40 dX10_judged_29 (by decide) (fun c29 => ?_) (fun c29 => ?_)
        · have c29 : ¬ D < 0 := Int32.not_lt.mpr c29
          rw [if_neg (fun z => c29 (x1.mpr z))] at ih
          refine g_iload dX10_judged_40 rfl ?_
          refine g_if_le 53 dX10_judged_42 (by decide) (fun c42 => ?_) (fun c42 => ?_)
          · rw [if_neg (fun z => Int32.not_lt.mpr (x2.mp c42) z)] at ih
            refine g_iload_n dX10_judged_53 rfl ?_
            refine g_ist5_2 dX10_judged_54 (by decide) rfl ?_
            exact hgo _ none ih
          · rw [if_pos (Int32.not_le.mp (fun z => c42 (x2.mpr z)))] at ih
            refine g_sipush (nI 300) dX10_judged_45 ks_300 ?_
            refine g_iload_n dX10_judged_48 rfl ?_
            first | refine g_iadd_n dX10_judged_49 ?_ | refine g_iadd dX10_judged_49 ?_
            refine g_goto 54 dX10_judged_50 (by decide) ?_
            refine g_ist5_2 dX10_judged_54 (by decide) rfl ?_
            exact hgo _ none ih
        · have c29 : D < 0 := Int32.not_le.mp c29
          rw [if_pos (x1.mp c29)] at ih
          refine g_sipush (nI 200) dX10_judged_32 ks_200 ?_
          refine g_iload_n dX10_judged_35 rfl ?_
          first | refine g_iadd_n dX10_judged_36 ?_ | refine g_iadd dX10_judged_36 ?_
          refine g_goto 54 dX10_judged_37 (by decide) ?_
          refine g_ist5_2 dX10_judged_54 (by decide) rfl ?_
          exact hgo _ none ih
    · exact absurd (show (-1 : Int32) < 0 from by decide) c6
  · rw [if_neg hb] at h
    have hbl : barI S f ≤ S 1 0 0 := fstN_le _ _
    have hsd := sd_lt (S := S) (k := barI S f) (by omega)
    have hbe : barV S f = nI (sd S (barI S f)) := by rw [barV, if_neg hb]
    have h := h M EqQ.rf hM
    rw [hbe] at h ⊢
    refine g_ist5_1 dX10_judged_4 (by decide) rfl ?_
    refine g_iload_n dX10_judged_5 rfl ?_
    refine g_if_lt_n 11 dX10_judged_6 (by decide) (by omega) ?_
    refine g_iload_n dX10_judged_9 rfl ?_
    refine g_ireturn dX10_judged_10 rfl (by first | rfl | exact nar_bI _) ?_
    exact h
/-! judge, roster, both -/
theorem neg_l : ∀ f, f < 151 → -100 - nI f < 0 := by decide +kernel
theorem hoS_mk {w : Nat → Int32} {S : BS} (hM : MK w S) : MK w S := hM
theorem SM_read0 {d : Nat} {n : Nat} {t : Nat → Nat} {M : Mm} {S : BS} {Q : Po} (hM : MK (M 58) S) (hC : MC M) (hT : TPm n t M) (h : ∀ M' q, EqQ [62, 71] M M' → TM n t M' q → q = (roP S n t (S 1 0 0)).1 → (∀ j, j < S 1 0 0 → M' 62 j = nI (sd S j)) → (okB q = true → ∀ e, e < S 1 0 0 → M' 71 e = hv ((roP S n t (S 1 0 0)).2 e)) → Q M' none) : Call (d + 6) mM_readsRoster [.ref 57] M Q :=
  SM_readsRoster hM hC hT (fun M' hE hT2 h62 h71 => h M' _ hE hT2 rfl h62 h71)
theorem SM_judge (M : Mm) (S : BS) (n : Nat) (t : Nat → Nat) (Q : Po) (hM : MK (M 58) S) (hC : MC M) (hH : HM S) (hT : TPm n t M) (h : ∀ M', FxM M M' → MK (M' 58) (f_judge S n t).2.1 → M' 57 19 = (if (f_judge S n t).2.2 = true then nI n else nI 0) → Q M' (some (.int (f_judge S n t).1))) : Call 60 mM_judge [.ref 57] M Q := by
  have hw := hM.wf.nd
  unfold f_judge at h
  dsimp only at h
  refine Call_of (m := mM_judge) [some (.ref 57), none] rfl (fun G => Nat.le_of_ble_eq_true rfl) (fun G => rfl) ?_
  refine g_aload_n dX10_judge_0 rfl ?_
  refine g_getr (j := 0) dX10_judge_1 gc10 rfl (by decide) rfl (by decide) fl_M_9 ?_
  refine g_iconst (nI 2) dX10_judge_4 ki_2 ?_
  refine g_iald_n dX10_judge_5 (by first | rfl | assumption) (by first | decide | assumption) (by omega) (by omega) ?_
  try simp (disch := omega) only [hM.nd]
  refine g_if_ne_n 17 dX10_judge_6 (by decide) (by omega) (fun c6 => ?_) (fun c6 => ?_)
  · rw [if_neg c6] at h
    refine g_aload_n dX10_judge_17 rfl ?_
    refine g_call0 dX10_judge_18 clM_readsRoster ml_M_343 gc10 rfl rfl (by decide) (Nat.le_of_ble_eq_true rfl) ?_
    refine SM_read0 hM hC hT (fun M1 q hE1 hT1 hq h62 h71 => ?_)
    rw [← hq] at h
    refine g_aload_n dX10_judge_21 rfl ?_
    refine g_iconst (nI 0) dX10_judge_22 ki_0 ?_
    refine g_call1 dX10_judge_23 clM_closes ml_M_288 gc10 rfl rfl (by decide) (Nat.le_of_ble_eq_true rfl) ?_
    refine SM_closes _ hT1 (fun M2 hE2 h19 => ?_)
    have hX2 : EqX [58, 62, 66, 71, 72, 73] M M2 := ((EqX.ofQ hE1).sub (by decide)).tr (EqX.ofC hE2)
    have k58 : M2 58 = M 58 := by
      funext j
      rw [hE2 58 j (by omega), hE1 58 j (by decide) (by omega)]
    have hM2 : MK (M2 58) S := by rw [k58]; exact hM
    refine g_ist2_1 dX10_judge_26 (by decide) rfl ?_
    refine g_aload_n dX10_judge_27 rfl ?_
    refine g_call0 dX10_judge_28 clM_remembers ml_M_346 gc10 rfl rfl (by decide) (Nat.le_of_ble_eq_true rfl) ?_
    refine SM_remembers hM2 (fun M3 hE3 h72 => ?_)
    have hX3 : EqX [58, 62, 66, 71, 72, 73] M M3 := hX2.tr ((EqX.ofO hE3).sub (by decide))
    have hM3 : MK (M3 58) S := by rw [hE3 58 (by decide)]; exact hM2
    by_cases hok : okB (enS n q) = true
    · rw [if_pos hok] at h
      rw [cl_ok hok]
      have hf8 := ro_8 hM.wf (show okB (roP S n t (S 1 0 0)).1 = true by rw [← hq]; exact (ok_en hok).1)
      have h71 := h71 (ok_en hok).1
      generalize (roP S n t (S 1 0 0)).2 = f at h hf8 h71
      have g62 : ∀ j, j < S 1 0 0 → M3 62 j = nI (sd S j) := fun j hj => by rw [hE3 62 (by decide), hE2 62 j (by omega)]; exact h62 j hj
      have g71 : ∀ e, e < S 1 0 0 → M3 71 e = hv (f e) := fun e he => by rw [hE3 71 (by decide), hE2 71 e (by omega)]; exact h71 e he
      refine g_iload_n dX10_judge_31 rfl ?_
      refine g_if_ge_n 39 dX10_judge_32 (by decide) (by omega) ?_
      refine g_aload_n dX10_judge_39 rfl ?_
      refine g_call0 dX10_judge_40 clM_judged ml_M_349 gc10 rfl rfl (by decide) (Nat.le_of_ble_eq_true rfl) ?_
      refine SM_judged hM3 g62 g71 h72 hf8 (fun M4 hE4 hM4 => ?_)
      refine g_ireturn dX10_judge_43 rfl (by first | rfl | exact nar_bI _) ?_
      refine h M4 (FxM.ofX (hX3.tr ((EqX.ofQ hE4).sub (by decide))) (by decide)) hM4 ?_
      rw [hE4 57 19 (by decide) (by omega), hE3 57 (by decide), h19]
      rfl
    · have hok := Bool.eq_false_iff.mpr hok
      rw [if_neg (c := okB (enS n q) = true) (by rw [hok]; decide)] at h
      obtain ⟨f, hf, hf2⟩ := en_bad hT1 hok
      have hneg := neg_l f hf2
      rw [hf] at h ⊢
      rw [show clV (nI 0) (.inr f) = -100 - nI f from rfl] at h ⊢
      generalize -100 - nI f = w0 at h hneg ⊢
      refine g_iload_n dX10_judge_31 rfl ?_
      refine g_if_ge 39 dX10_judge_32 (by decide) (fun c32 => ?_) (fun c32 => ?_)
      · exact absurd hneg (Int32.not_lt.mpr c32)
      · refine g_iload_n dX10_judge_35 rfl ?_
        refine g_goto 43 dX10_judge_36 (by decide) ?_
        refine g_ireturn dX10_judge_43 rfl (by first | rfl | exact nar_bI _) ?_
        refine h M3 (FxM.ofX hX3 (by decide)) hM3 ?_
        rw [hE3 57 (by decide), h19]
        rfl
  · rw [if_pos c6] at h
    refine g_aload_n dX10_judge_9 rfl ?_
    refine g_iconst (nI 0) dX10_judge_10 ki_0 ?_
    refine g_puti (j := 19) dX10_judge_11 gc10 rfl (by decide) rfl (by decide) fl_M_245 rfl (tyX10_ok 19 (by decide)) (by first | rfl | exact nar_bI _) rfl ?_
    refine g_bipush ((-3)) dX10_judge_14 kb_m3 ?_
    refine g_ireturn dX10_judge_16 rfl (by first | rfl | exact nar_bI _) ?_
    refine h _ (FxM.ofX (L := []) (fun k j _ hj => mset_off (fun z => by have := hj z.1; omega)) (by decide)) (by rw [mset_ne (by decide)]; exact hM) ?_
    rw [mset_at]
    rfl
theorem both_judge : Both mF_judge mM_judge [] := both_text f_judge (fun M S n t Q => SF_judge M S n t Q) (fun M S n t Q => SM_judge M S n t Q) (fun S n t hn ht hW hH => hH)
theorem SM_roster (M : Mm) (S : BS) (n : Nat) (t : Nat → Nat) (Q : Po) (hM : MK (M 58) S) (hC : MC M) (hH : HM S) (hT : TPm n t M) (h : ∀ M', FxM M M' → MK (M' 58) (f_roster S n t).2.1 → M' 57 19 = (if (f_roster S n t).2.2 = true then nI n else nI 0) → Q M' (some (.int (f_roster S n t).1))) : Call 60 mM_roster [.ref 57] M Q := by
  have hw := hM.wf.nd
  unfold f_roster at h
  refine Call_of (m := mM_roster) [some (.ref 57), none] rfl (fun G => Nat.le_of_ble_eq_true rfl) (fun G => rfl) ?_
  refine g_aload_n dX10_roster_0 rfl ?_
  refine g_getr (j := 0) dX10_roster_1 gc10 rfl (by decide) rfl (by decide) fl_M_9 ?_
  refine g_iconst (nI 2) dX10_roster_4 ki_2 ?_
  refine g_iald_n dX10_roster_5 (by first | rfl | assumption) (by first | decide | assumption) (by omega) (by omega) ?_
  try simp (disch := omega) only [hM.nd]
  refine g_if_ne_n 17 dX10_roster_6 (by decide) (by omega) (fun c6 => ?_) (fun c6 => ?_)
  · rw [if_neg c6] at h
    refine g_aload_n dX10_roster_17 rfl ?_
    refine g_call0 dX10_roster_18 clM_readsRoster ml_M_343 gc10 rfl rfl (by decide) (Nat.le_of_ble_eq_true rfl) ?_
    refine SM_read0 hM hC hT (fun M1 q hE1 hT1 hq h62 h71 => ?_)
    rw [← hq] at h
    refine g_aload_n dX10_roster_21 rfl ?_
    refine g_iconst (nI 0) dX10_roster_22 ki_0 ?_
    refine g_call1 dX10_roster_23 clM_closes ml_M_288 gc10 rfl rfl (by decide) (Nat.le_of_ble_eq_true rfl) ?_
    refine SM_closes _ hT1 (fun M2 hE2 h19 => ?_)
    have hX2 : EqX [58, 62, 71] M M2 := ((EqX.ofQ hE1).sub (by decide)).tr (EqX.ofC hE2)
    have k58 : M2 58 = M 58 := by
      funext j
      rw [hE2 58 j (by omega), hE1 58 j (by decide) (by omega)]
    have hM2 : MK (M2 58) S := by rw [k58]; exact hM
    by_cases hok : okB (enS n q) = true
    · rw [if_pos hok] at h
      rw [cl_ok hok]
      have hf8 := ro_8 hM.wf (show okB (roP S n t (S 1 0 0)).1 = true by rw [← hq]; exact (ok_en hok).1)
      have h71 := h71 (ok_en hok).1
      generalize (roP S n t (S 1 0 0)).2 = f at h hf8 h71
      have g62 : ∀ j, j < S 1 0 0 → M2 62 j = nI (sd S j) := fun j hj => by rw [hE2 62 j (by omega)]; exact h62 j hj
      have g71 : ∀ e, e < S 1 0 0 → M2 71 e = hv (f e) := fun e he => by rw [hE2 71 e (by omega)]; exact h71 e he
      refine g_ist2_1 dX10_roster_26 (by decide) rfl ?_
      refine g_iload_n dX10_roster_27 rfl ?_
      refine g_if_lt_n 38 dX10_roster_28 (by decide) (by omega) ?_
      refine g_aload_n dX10_roster_31 rfl ?_
      refine g_call0 dX10_roster_32 clM_firstBarred ml_M_334 gc10 rfl rfl (by decide) (Nat.le_of_ble_eq_true rfl) ?_
      refine SM_firstBarred hM2 g62 g71 hf8 ?_
      by_cases hb : barI S f = S 1 0 0
      · rw [if_pos hb] at h
        dsimp only at h
        rw [barV, if_pos hb]
        refine g_if_lt 49 dX10_roster_35 (by decide) (fun c35 => ?_) (fun c35 => ?_)
        · refine g_aload_n dX10_roster_49 rfl ?_
          refine g_aload_n dX10_roster_50 rfl ?_
          refine g_getr (j := 27) dX10_roster_51 gc10 rfl (by decide) rfl (by decide) fl_M_50 ?_
          refine g_call1 dX10_roster_54 clM_becomes ml_M_330 gc10 rfl rfl (by decide) (Nat.le_of_ble_eq_true rfl) ?_
          refine SM_becomes_71 hM2 g71 hf8 (fun M3 hE3 hM3 => ?_)
          have e1 : hoS S f (S 1 0 0) 1 0 0 = S 1 0 0 := by rw [hoS_oth (by decide)]
          have hle := heldAll_le hM3.wf 8
          rw [e1] at hle
          refine g_aload_n dX10_roster_57 rfl ?_
          refine g_getr (j := 0) dX10_roster_58 gc10 rfl (by decide) rfl (by decide) fl_M_9 ?_
          refine g_iconst (nI 2) dX10_roster_61 ki_2 ?_
          refine g_iald_n dX10_roster_62 (by first | rfl | assumption) (by first | decide | assumption) (by omega) (by omega) ?_
          try simp (disch := omega) only [hM3.nd, e1]
          refine g_aload_n dX10_roster_63 rfl ?_
          refine g_call0 dX10_roster_64 clM_openMany ml_M_228 gc10 rfl rfl (by decide) (Nat.le_of_ble_eq_true rfl) ?_
          refine SM_openMany hM3 ?_
          first | refine g_isub_n dX10_roster_67 (by omega) ?_ | refine g_isub dX10_roster_67 ?_
          refine g_ireturn dX10_roster_68 rfl (by first | rfl | exact nar_bI _) ?_
          refine h M3 (FxM.ofX (hX2.tr ((EqX.ofO hE3).sub (L' := [58, 62, 71]) (by decide))) (by decide)) hM3 ?_
          rw [hE3 57 (by decide), h19]
          rfl
        · exact absurd (show (-1 : Int32) < 0 from by decide) c35
      · rw [if_neg hb] at h
        dsimp only at h
        have hbl : barI S f ≤ S 1 0 0 := fstN_le _ _
        have hsd := sd_lt (S := S) (k := barI S f) (by omega)
        rw [barV, if_neg hb]
        refine g_if_lt_n 49 dX10_roster_35 (by decide) (by omega) ?_
        refine g_iload_n dX10_roster_38 rfl ?_
        refine g_if_ge_n 46 dX10_roster_39 (by decide) (by omega) ?_
        refine g_bipush ((-7)) dX10_roster_46 kb_m7 ?_
        refine g_ireturn dX10_roster_48 rfl (by first | rfl | exact nar_bI _) ?_
        refine h M2 (FxM.ofX hX2 (by decide)) hM2 ?_
        rw [h19]
        rfl
    · have hok := Bool.eq_false_iff.mpr hok
      rw [if_neg (c := okB (enS n q) = true) (by rw [hok]; decide)] at h
      dsimp only at h
      obtain ⟨f, hf, hf2⟩ := en_bad hT1 hok
      have hneg := neg_l f hf2
      rw [hf] at h ⊢
      rw [show clV (nI 0) (.inr f) = -100 - nI f from rfl] at h ⊢
      generalize -100 - nI f = w0 at h hneg ⊢
      refine g_ist2_1 dX10_roster_26 (by decide) rfl ?_
      refine g_iload_n dX10_roster_27 rfl ?_
      refine g_if_lt 38 dX10_roster_28 (by decide) (fun c28 => ?_) (fun c28 => ?_)
      · refine g_iload_n dX10_roster_38 rfl ?_
        refine g_if_ge 46 dX10_roster_39 (by decide) (fun c39 => ?_) (fun c39 => ?_)
        · exact absurd hneg (Int32.not_lt.mpr c39)
        · refine g_iload_n dX10_roster_42 rfl ?_
          refine g_goto 48 dX10_roster_43 (by decide) ?_
          refine g_ireturn dX10_roster_48 rfl (by first | rfl | exact nar_bI _) ?_
          refine h M2 (FxM.ofX hX2 (by decide)) hM2 ?_
          rw [h19]
          rfl
      · exact absurd hneg c28
  · rw [if_pos c6] at h
    dsimp only at h
    refine g_aload_n dX10_roster_9 rfl ?_
    refine g_iconst (nI 0) dX10_roster_10 ki_0 ?_
    refine g_puti (j := 19) dX10_roster_11 gc10 rfl (by decide) rfl (by decide) fl_M_245 rfl (tyX10_ok 19 (by decide)) (by first | rfl | exact nar_bI _) rfl ?_
    refine g_bipush ((-3)) dX10_roster_14 kb_m3 ?_
    refine g_ireturn dX10_roster_16 rfl (by first | rfl | exact nar_bI _) ?_
    refine h _ (FxM.ofX (L := []) (fun k j _ hj => mset_off (fun z => by have := hj z.1; omega)) (by decide)) (by rw [mset_ne (by decide)]; exact hM) ?_
    rw [mset_at]
    rfl
theorem bar_none {S : BS} {f : Nat → Nat} (h : barI S f = S 1 0 0) {i : Nat} (hi : i < S 1 0 0) : barB S f i = false := by
  have key : ∀ n, fstN (barB S f) n = n → ∀ i, i < n → barB S f i = false := by
    intro n
    induction n with
    | zero => exact fun _ i hi => absurd hi (by omega)
    | succ n ih =>
      intro hn i hi
      have hle := fstN_le (barB S f) n
      rw [fstN] at hn
      split at hn
      · omega
      · rename_i z
        split at hn
        · omega
        · rename_i y
          by_cases e : i = n
          · rw [e]; exact Bool.eq_false_iff.mpr y
          · exact ih (by omega) i (by omega)
  exact key _ h i hi
theorem both_roster : Both mF_roster mM_roster [] := both_text f_roster (fun M S n t Q => SF_roster M S n t Q) (fun M S n t Q => SM_roster M S n t Q) (fun S n t hn ht hW hH => by
  unfold f_roster
  by_cases h0 : S 1 0 0 = 0
  · rw [if_pos h0]; exact hH
  · rw [if_neg h0]
    by_cases hok : okB (enS n (roP S n t (S 1 0 0)).1) = true
    · rw [if_pos hok]
      generalize (roP S n t (S 1 0 0)).2 = f
      by_cases hb : barI S f = S 1 0 0
      · rw [if_pos hb]
        intro d hd h8
        dsimp only at hd h8 ⊢
        rw [hoS_oth (by decide)] at hd
        rw [hoS_ho hd] at h8 ⊢
        rw [may_ho (fun a ha => hoS_oth ha)]
        obtain ⟨i, hi, e⟩ := sd_onto hd
        have hn := bar_none hb hi
        unfold barB at hn
        rw [e] at hn
        cases hm : mayB S (f d) d with
        | true => rfl
        | false =>
          rw [hm] at hn
          have h9 : ¬ f d = 8 := by omega
          simp [h9] at hn
      · rw [if_neg hb]; exact hH
    · rw [if_neg hok]; exact hH)
/-! decode rows of the JDK methods behind String.length and String.charAt -/
theorem dJ0_length_8abf5_0 : decode cJ0_length_8abf5 0 = .ok (.aload_n 0, 1) := bo_42 (by decide +kernel)
theorem dJ0_length_8abf5_1 : decode cJ0_length_8abf5 1 = .ok (.getfield 9, 3) := bo_180 (by decide +kernel)
theorem dJ0_length_8abf5_4 : decode cJ0_length_8abf5 4 = .ok (.arraylength, 1) := bo_190 (by decide +kernel)
theorem dJ0_length_8abf5_5 : decode cJ0_length_8abf5 5 = .ok (.aload_n 0, 1) := bo_42 (by decide +kernel)
theorem dJ0_length_8abf5_6 : decode cJ0_length_8abf5 6 = .ok (.invokevirtual 335, 3) := bo_182 (by decide +kernel)
theorem dJ0_length_8abf5_9 : decode cJ0_length_8abf5 9 = .ok (.ishr, 1) := bo_122 (by decide +kernel)
theorem dJ0_length_8abf5_10 : decode cJ0_length_8abf5 10 = .ok (.ireturn, 1) := bo_172 (by decide +kernel)
theorem dJ0_charAt_5068e_0 : decode cJ0_charAt_5068e 0 = .ok (.aload_n 0, 1) := bo_42 (by decide +kernel)
theorem dJ0_charAt_5068e_1 : decode cJ0_charAt_5068e 1 = .ok (.invokevirtual 492, 3) := bo_182 (by decide +kernel)
theorem dJ0_charAt_5068e_4 : decode cJ0_charAt_5068e 4 = .ok (.ifCond .eq 12, 3) := bo_153 (by decide +kernel)
theorem dJ0_charAt_5068e_7 : decode cJ0_charAt_5068e 7 = .ok (.aload_n 0, 1) := bo_42 (by decide +kernel)
theorem dJ0_charAt_5068e_8 : decode cJ0_charAt_5068e 8 = .ok (.getfield 9, 3) := bo_180 (by decide +kernel)
theorem dJ0_charAt_5068e_11 : decode cJ0_charAt_5068e 11 = .ok (.iload_n 1, 1) := bo_27 (by decide +kernel)
theorem dJ0_charAt_5068e_12 : decode cJ0_charAt_5068e 12 = .ok (.invokestatic 495, 3) := bo_184 (by decide +kernel)
theorem dJ0_charAt_5068e_15 : decode cJ0_charAt_5068e 15 = .ok (.ireturn, 1) := bo_172 (by decide +kernel)
theorem dJ0_charAt_5068e_16 : decode cJ0_charAt_5068e 16 = .ok (.aload_n 0, 1) := bo_42 (by decide +kernel)
theorem dJ0_charAt_5068e_17 : decode cJ0_charAt_5068e 17 = .ok (.getfield 9, 3) := bo_180 (by decide +kernel)
theorem dJ0_charAt_5068e_20 : decode cJ0_charAt_5068e 20 = .ok (.iload_n 1, 1) := bo_27 (by decide +kernel)
theorem dJ0_charAt_5068e_21 : decode cJ0_charAt_5068e 21 = .ok (.invokestatic 498, 3) := bo_184 (by decide +kernel)
theorem dJ0_charAt_5068e_24 : decode cJ0_charAt_5068e 24 = .ok (.ireturn, 1) := bo_172 (by decide +kernel)
theorem dJ0_coder_7d493_0 : decode cJ0_coder_7d493 0 = .ok (.getstatic 38, 3) := bo_178 (by decide +kernel)
theorem dJ0_coder_7d493_3 : decode cJ0_coder_7d493 3 = .ok (.ifCond .eq 10, 3) := bo_153 (by decide +kernel)
theorem dJ0_coder_7d493_6 : decode cJ0_coder_7d493 6 = .ok (.aload_n 0, 1) := bo_42 (by decide +kernel)
theorem dJ0_coder_7d493_7 : decode cJ0_coder_7d493 7 = .ok (.getfield 15, 3) := bo_180 (by decide +kernel)
theorem dJ0_coder_7d493_10 : decode cJ0_coder_7d493 10 = .ok (.goto 4, 3) := bo_167 (by decide +kernel)
theorem dJ0_coder_7d493_13 : decode cJ0_coder_7d493 13 = .ok (.iconst 1, 1) := bo_4 (by decide +kernel)
theorem dJ0_coder_7d493_14 : decode cJ0_coder_7d493 14 = .ok (.ireturn, 1) := bo_172 (by decide +kernel)
theorem dJ0_isLatin1_aae02_0 : decode cJ0_isLatin1_aae02 0 = .ok (.getstatic 38, 3) := bo_178 (by decide +kernel)
theorem dJ0_isLatin1_aae02_3 : decode cJ0_isLatin1_aae02 3 = .ok (.ifCond .eq 14, 3) := bo_153 (by decide +kernel)
theorem dJ0_isLatin1_aae02_6 : decode cJ0_isLatin1_aae02 6 = .ok (.aload_n 0, 1) := bo_42 (by decide +kernel)
theorem dJ0_isLatin1_aae02_7 : decode cJ0_isLatin1_aae02 7 = .ok (.getfield 15, 3) := bo_180 (by decide +kernel)
theorem dJ0_isLatin1_aae02_10 : decode cJ0_isLatin1_aae02 10 = .ok (.ifCond .ne 7, 3) := bo_154 (by decide +kernel)
theorem dJ0_isLatin1_aae02_13 : decode cJ0_isLatin1_aae02 13 = .ok (.iconst 1, 1) := bo_4 (by decide +kernel)
theorem dJ0_isLatin1_aae02_14 : decode cJ0_isLatin1_aae02 14 = .ok (.goto 4, 3) := bo_167 (by decide +kernel)
theorem dJ0_isLatin1_aae02_17 : decode cJ0_isLatin1_aae02 17 = .ok (.iconst 0, 1) := bo_3 (by decide +kernel)
theorem dJ0_isLatin1_aae02_18 : decode cJ0_isLatin1_aae02 18 = .ok (.ireturn, 1) := bo_172 (by decide +kernel)
theorem dJ0_checkIndex_df160_0 : decode cJ0_checkIndex_df160 0 = .ok (.iload_n 0, 1) := bo_26 (by decide +kernel)
theorem dJ0_checkIndex_df160_1 : decode cJ0_checkIndex_df160 1 = .ok (.iload_n 1, 1) := bo_27 (by decide +kernel)
theorem dJ0_checkIndex_df160_2 : decode cJ0_checkIndex_df160 2 = .ok (.getstatic 1053, 3) := bo_178 (by decide +kernel)
theorem dJ0_checkIndex_df160_5 : decode cJ0_checkIndex_df160 5 = .ok (.invokestatic 1059, 3) := bo_184 (by decide +kernel)
theorem dJ0_checkIndex_df160_8 : decode cJ0_checkIndex_df160 8 = .ok (.pop, 1) := bo_87 (by decide +kernel)
theorem dJ0_checkIndex_df160_9 : decode cJ0_checkIndex_df160 9 = .ok (.return_, 1) := bo_177 (by decide +kernel)
theorem dJ1_charAt_3b067_0 : decode cJ1_charAt_3b067 0 = .ok (.iload_n 1, 1) := bo_27 (by decide +kernel)
theorem dJ1_charAt_3b067_1 : decode cJ1_charAt_3b067 1 = .ok (.aload_n 0, 1) := bo_42 (by decide +kernel)
theorem dJ1_charAt_3b067_2 : decode cJ1_charAt_3b067 2 = .ok (.arraylength, 1) := bo_190 (by decide +kernel)
theorem dJ1_charAt_3b067_3 : decode cJ1_charAt_3b067 3 = .ok (.invokestatic 9, 3) := bo_184 (by decide +kernel)
theorem dJ1_charAt_3b067_6 : decode cJ1_charAt_3b067 6 = .ok (.aload_n 0, 1) := bo_42 (by decide +kernel)
theorem dJ1_charAt_3b067_7 : decode cJ1_charAt_3b067 7 = .ok (.iload_n 1, 1) := bo_27 (by decide +kernel)
theorem dJ1_charAt_3b067_8 : decode cJ1_charAt_3b067 8 = .ok (.baload, 1) := bo_51 (by decide +kernel)
theorem dJ1_charAt_3b067_9 : decode cJ1_charAt_3b067 9 = .ok (.sipush 255, 3) := bo_17 (by decide +kernel)
theorem dJ1_charAt_3b067_12 : decode cJ1_charAt_3b067 12 = .ok (.iand, 1) := bo_126 (by decide +kernel)
theorem dJ1_charAt_3b067_13 : decode cJ1_charAt_3b067 13 = .ok (.i2c, 1) := bo_146 (by decide +kernel)
theorem dJ1_charAt_3b067_14 : decode cJ1_charAt_3b067 14 = .ok (.ireturn, 1) := bo_172 (by decide +kernel)
theorem dJ3_checkIndex_8e157_0 : decode cJ3_checkIndex_8e157 0 = .ok (.iload_n 0, 1) := bo_26 (by decide +kernel)
theorem dJ3_checkIndex_8e157_1 : decode cJ3_checkIndex_8e157 1 = .ok (.ifCond .lt 8, 3) := bo_155 (by decide +kernel)
theorem dJ3_checkIndex_8e157_4 : decode cJ3_checkIndex_8e157 4 = .ok (.iload_n 0, 1) := bo_26 (by decide +kernel)
theorem dJ3_checkIndex_8e157_5 : decode cJ3_checkIndex_8e157 5 = .ok (.iload_n 1, 1) := bo_27 (by decide +kernel)
theorem dJ3_checkIndex_8e157_6 : decode cJ3_checkIndex_8e157 6 = .ok (.if_icmp .lt 10, 3) := bo_161 (by decide +kernel)
theorem dJ3_checkIndex_8e157_9 : decode cJ3_checkIndex_8e157 9 = .ok (.aload_n 2, 1) := bo_44 (by decide +kernel)
theorem dJ3_checkIndex_8e157_10 : decode cJ3_checkIndex_8e157 10 = .ok (.iload_n 0, 1) := bo_26 (by decide +kernel)
theorem dJ3_checkIndex_8e157_11 : decode cJ3_checkIndex_8e157 11 = .ok (.iload_n 1, 1) := bo_27 (by decide +kernel)
theorem dJ3_checkIndex_8e157_12 : decode cJ3_checkIndex_8e157 12 = .ok (.invokestatic 95, 3) := bo_184 (by decide +kernel)
theorem dJ3_checkIndex_8e157_15 : decode cJ3_checkIndex_8e157 15 = .ok (.athrow, 1) := bo_191 (by decide +kernel)
theorem dJ3_checkIndex_8e157_16 : decode cJ3_checkIndex_8e157 16 = .ok (.iload_n 0, 1) := bo_26 (by decide +kernel)
theorem dJ3_checkIndex_8e157_17 : decode cJ3_checkIndex_8e157 17 = .ok (.ireturn, 1) := bo_172 (by decide +kernel)
/-! String constants: their length and signs, through the JDK's own methods -/
theorem g_ldcS {m : Me} {d : Nat} {Q : Po} {pc : Nat} {ls : Lv} {st : St} {M : Mm} {idx : Nat} {tx : String} (i : Nat) (hown : m.1.cls = "FairTurns$Condition") (hq : strI[i]? = some (idx, tx)) (hd : decode m.2.1 pc = .ok (.ldc idx, 2)) (kk : Go m d Q (pc + 2) ls (.ref (NN + 2 + i) :: st) M) : Go m d Q pc ls st M := by
  intro p l e s mi args below meth c G sz hF hK hS hz H locs arr hP hD hFr hl
  exact va_ldcS hF.1 hF.2.1 (own := "FairTurns$Condition") (by rw [← hown]; exact hF.2.2.2.2.1) (hS.2.2.2.2.2.1 i (idx, tx) hq) hd (kk p l e s mi args below meth c G sz hF hK hS hz H locs arr hP hD hFr hl)
theorem g_strV {m : Me} {d : Nat} {Q : Po} {pc : Nat} {ls : Lv} {st : St} {M : Mm} {idx i : Nat} (hi : i < 6) (hlk : Cond.fieldLink m.1.cls idx "java/lang/String" "value" "[B" ∈ TB) (hd : decode m.2.1 pc = .ok (.getfield idx, 3)) (kk : Go m d Q (pc + 3) ls (.ref (NN + 8 + i) :: st) M) : Go m d Q pc ls (.ref (NN + 2 + i) :: st) M := by
  intro p l e s mi args below meth c G sz hF hK hS hz H locs arr hP hD hFr hl
  exact vk_getf hF.1 hF.2.1 ((hS.2.2.2.2.1).1 i hi).2.2.1 hFr hF.2.2.2.2.1 (hF.2.2.2.2.2.1 _ (TBm hlk)) (fun _ h => h) hd (kk p l e s mi args below meth c G sz hF hK hS hz H locs arr hP hD hFr hl)
theorem g_strC {m : Me} {d : Nat} {Q : Po} {pc : Nat} {ls : Lv} {st : St} {M : Mm} {idx i : Nat} (hi : i < 6) (hlk : Cond.fieldLink m.1.cls idx "java/lang/String" "coder" "B" ∈ TB) (hd : decode m.2.1 pc = .ok (.getfield idx, 3)) (kk : Go m d Q (pc + 3) ls (.int (nI 0) :: st) M) : Go m d Q pc ls (.ref (NN + 2 + i) :: st) M := by
  intro p l e s mi args below meth c G sz hF hK hS hz H locs arr hP hD hFr hl
  exact vk_getf (v := .int (nI 0)) hF.1 hF.2.1 ((hS.2.2.2.2.1).1 i hi).2.1 hFr hF.2.2.2.2.1 (hF.2.2.2.2.2.1 _ (TBm hlk)) (fun _ h => h) hd (kk p l e s mi args below meth c G sz hF hK hS hz H locs arr hP hD hFr hl)
theorem g_strL {m : Me} {d : Nat} {Q : Po} {pc : Nat} {ls : Lv} {st : St} {M : Mm} {i : Nat} (hi : i < 6) (hd : decode m.2.1 pc = .ok (.arraylength, 1)) (kk : Go m d Q (pc + 1) ls (.int (nI (strL.getD i 0)) :: st) M) : Go m d Q pc ls (.ref (NN + 8 + i) :: st) M := by
  intro p l e s mi args below meth c G sz hF hK hS hz H locs arr hP hD hFr hl
  exact va_tlen hF.1 hF.2.1 ((hS.2.2.2.2.1).1 i hi).2.2.2 hFr rfl hd (kk p l e s mi args below meth c G sz hF hK hS hz H locs arr hP hD hFr hl)
def chI (i j : Nat) : Int32 := (strB.getD i []).getD j 0
theorem strL_le {i : Nat} : strL.getD i 0 ≤ 7 := by
  match i with
  | 0 => decide
  | 1 => decide
  | 2 => decide
  | 3 => decide
  | 4 => decide
  | 5 => decide
  | n + 6 => simp [strL]
theorem g_strB {m : Me} {d : Nat} {Q : Po} {pc : Nat} {ls : Lv} {st : St} {M : Mm} {i j : Nat} (hi : i < 6) (hj : j < strL.getD i 0) (hd : decode m.2.1 pc = .ok (.baload, 1)) (kk : Go m d Q (pc + 1) ls (.int (chI i j) :: st) M) : Go m d Q pc ls (.int (nI j) :: .ref (NN + 8 + i) :: st) M := by
  intro p l e s mi args below meth c G sz hF hK hS hz H locs arr hP hD hFr hl
  have h7 := strL_le (i := i)
  exact va_tb (v := .int (chI i j)) hF.1 hF.2.1 ((hS.2.2.2.2.1).1 i hi).2.2.2 hFr (nI_in hj (by omega)) (by rw [nI_clamp (by omega)]; rfl) hd (kk p l e s mi args below meth c G sz hF hK hS hz H locs arr hP hD hFr hl)
theorem g_compact {m : Me} {d : Nat} {Q : Po} {pc : Nat} {ls : Lv} {st : St} {M : Mm} {idx : Nat} (hlk : Cond.fieldLink m.1.cls idx "java/lang/String" "COMPACT_STRINGS" "Z" ∈ TB) (hd : decode m.2.1 pc = .ok (.getstatic idx, 3)) (kk : Go m d Q (pc + 3) ls (.int (nI 1) :: st) M) : Go m d Q pc ls st M := by
  intro p l e s mi args below meth c G sz hF hK hS hz H locs arr hP hD hFr hl
  exact va_gets (v := .int (nI 1)) hF.1 hF.2.1 hS.2.2.2.2.2.2.1 hFr hF.2.2.2.2.1 (hF.2.2.2.2.2.1 _ (TBm hlk)) (fun _ h => h) hd (kk p l e s mi args below meth c G sz hF hK hS hz H locs arr hP hD hFr hl)
theorem g_sioobe {m : Me} {d : Nat} {Q : Po} {pc : Nat} {ls : Lv} {st : St} {M : Mm} {idx : Nat} (hlk : Cond.fieldLink m.1.cls idx "jdk/internal/util/Preconditions" "SIOOBE_FORMATTER" "Ljava/util/function/BiFunction;" ∈ TB) (hd : decode m.2.1 pc = .ok (.getstatic idx, 3)) (kn : Go m d Q (pc + 3) ls (.null :: st) M) (kr : Go m d Q (pc + 3) ls (.ref (NN + 14) :: st) M) : Go m d Q pc ls st M := by
  intro p l e s mi args below meth c G sz hF hK hS hz H locs arr hP hD hFr hl
  rcases hS.2.2.2.2.2.2.2.1 with h8 | h8
  · exact va_gets (v := .null) hF.1 hF.2.1 h8 hFr hF.2.2.2.2.1 (hF.2.2.2.2.2.1 _ (TBm hlk)) (fun _ h => h) hd (kn p l e s mi args below meth c G sz hF hK hS hz H locs arr hP hD hFr hl)
  · exact va_gets (v := .ref (G.1 (NN + 14))) hF.1 hF.2.1 h8 hFr hF.2.2.2.2.1 (hF.2.2.2.2.2.1 _ (TBm hlk)) (fun _ h => h) hd (kr p l e s mi args below meth c G sz hF hK hS hz H locs arr hP hD hFr hl)
theorem g_i2c {m : Me} {d : Nat} {Q : Po} {pc : Nat} {ls : Lv} {st : St} {M : Mm} {x : Int32} (v : Int32) (hv : (x.toUInt32 % 65536).toInt32 = v) (hd : decode m.2.1 pc = .ok (.i2c, 1)) (kk : Go m d Q (pc + 1) ls (.int v :: st) M) : Go m d Q pc ls (.int x :: st) M := by
  intro p l e s mi args below meth c G sz hF hK hS hz H locs arr hP hD hFr hl
  exact lv_i2c hF.1 hF.2.1 hd hv (kk p l e s mi args below meth c G sz hF hK hS hz H locs arr hP hD hFr hl)
theorem g_callT {m y : Me} {d : Nat} {Q : Po} {pc : Nat} {ls : Lv} {st st0 : St} {M : Mm} (as : List Value) {i idx : Nat}
    (hd : decode m.2.1 pc = .ok (.invokevirtual idx, 3)) (hyV : gCalV y as.length) (hlk : Cond.methodLink m.1.cls idx y.1 ∈ TB)
    (hC : "java/lang/String" = y.1.cls) (hi : i < 6) (hst : st0 = as.reverse ++ .ref (NN + 2 + i) :: st) (hcat : (st.map fun v => v.category).sum ≤ 8)
    (kk : Call d y (.ref (NN + 2 + i) :: as) M (fun M' r => GoR m (d + 1) Q (pc + 3) ls r st M')) : Go m (d + 1) Q pc ls st0 M := by
  intro p l e s mi args below meth c G sz hF hK hS hz H locs arr hP hD hFr hl
  obtain ⟨hy, hin, hsel, hn, hml⟩ := hyV
  have hts := hF.2.2.2.2.2.1
  have hgS : ∀ U : State, U.heap = H → s.WarmedH U.vm → gP G sz M U U.heap := fun U hU hW => by
    rw [hU]
    exact ⟨Nat.le_trans hz hFr.1, hP, va_K.moved hW.alike hK, hD, (hS.kept hFr.2.1).warm hW⟩
  refine g_after (Qa := fun M' r => GoR m (d + 1) Q (pc + 3) ls r st M') (m := m) (st := st) (a := (Value.ref (G.1 (NN + 2 + i)) :: as.map (cv G)).toArray) hF hS hz hFr hl
    (va_runV (As := as.map (cv G)) (b := G.1 (NN + 2 + i)) (C := y.1.cls) ⟨hF.1, hF.2.1, hF.2.2.2.1, hF.2.2.2.2.1, hts⟩ (kk l G sz)
      (cwV (bytes := y.2.1) (maxL := y.2.2.1) (ret := y.2.2.2) (ws' := TB) as.length hts (goodIn_app4 (gGood hy) hlk hin hsel hy.2.1) rfl rfl rfl ⟨rfl, hy.2.2.1, hy.2.2.2, hn⟩ (rmd_ok d hml))
      ⟨gBlind, by rw [← hC]; exact vk_recv (i := i) hS.2.2.2.2.1 hi hFr, fun U hU hW => ⟨rfl, hgS U hU hW⟩⟩ rfl (by simp) hl.1 ?_ ?_ hd ⟨Nat.le_refl _, Nat.le_refl _⟩) (fun M' r h => h.to)
  · rw [hst]; simp [cv]
  · refine lv_room ?_
    rw [List.map_map]
    have : ((fun v => v.category) ∘ cv G) = (fun v : Value => v.category) := by funext v; exact cv_cat G v
    rw [this]
    exact hcat
theorem g_strcall0 {m y : Me} {d : Nat} {Q : Po} {pc : Nat} {ls : Lv} {st : St} {M : Mm} {i idx : Nat} (hd : decode m.2.1 pc = .ok (.invokevirtual idx, 3)) (hyV : gCalV y 0) (hlk : Cond.methodLink m.1.cls idx y.1 ∈ TB) (hC : "java/lang/String" = y.1.cls) (hi : i < 6) (hcat : (st.map fun v => v.category).sum ≤ 8) (kk : Call d y [.ref (NN + 2 + i)] M (fun M' r => GoR m (d + 1) Q (pc + 3) ls r st M')) : Go m (d + 1) Q pc ls (.ref (NN + 2 + i) :: st) M := g_callT [] hd hyV hlk hC hi rfl hcat kk
theorem g_strcall1 {m y : Me} {d : Nat} {Q : Po} {pc : Nat} {ls : Lv} {st : St} {M : Mm} {a1 : Value} {i idx : Nat} (hd : decode m.2.1 pc = .ok (.invokevirtual idx, 3)) (hyV : gCalV y 1) (hlk : Cond.methodLink m.1.cls idx y.1 ∈ TB) (hC : "java/lang/String" = y.1.cls) (hi : i < 6) (hcat : (st.map fun v => v.category).sum ≤ 8) (kk : Call d y [.ref (NN + 2 + i), a1] M (fun M' r => GoR m (d + 1) Q (pc + 3) ls r st M')) : Go m (d + 1) Q pc ls (a1 :: .ref (NN + 2 + i) :: st) M := g_callT [a1] hd hyV hlk hC hi rfl hcat kk
theorem SJ_coder {d : Nat} {M : Mm} {Q : Po} {i : Nat} (hi : i < 6) (h : Q M (some (.int (nI 0)))) : Call (d + 1) mJ0_coder_7d493 [.ref (NN + 2 + i)] M Q := by
  refine Call_of (m := mJ0_coder_7d493) [some (.ref (NN + 2 + i))] rfl (fun G => Nat.le_of_ble_eq_true rfl) (fun G => rfl) ?_
  refine g_compact fl_RJ0_38 dJ0_coder_7d493_0 ?_
  refine g_if_eq_n 13 dJ0_coder_7d493_3 (by decide) (by omega) (fun c3 => ?_) (fun c3 => ?_)
  · exact absurd c3 (by decide)
  · refine g_aload_n dJ0_coder_7d493_6 rfl ?_
    refine g_strC hi fl_RJ0_15 dJ0_coder_7d493_7 ?_
    refine g_goto 14 dJ0_coder_7d493_10 (by decide) ?_
    refine g_ireturn dJ0_coder_7d493_14 rfl (by first | rfl | exact nar_bI _) ?_
    exact h
theorem len_shr : ∀ i, i < 6 → nI (strL.getD i 0) >>> (nI 0 &&& 31) = nI (strL.getD i 0) := by decide +kernel
theorem SJ_length {d : Nat} {M : Mm} {Q : Po} {i : Nat} (hi : i < 6) (h : Q M (some (.int (nI (strL.getD i 0))))) : Call (d + 2) mJ0_length_8abf5 [.ref (NN + 2 + i)] M Q := by
  refine Call_of (m := mJ0_length_8abf5) [some (.ref (NN + 2 + i))] rfl (fun G => Nat.le_of_ble_eq_true rfl) (fun G => rfl) ?_
  refine g_aload_n dJ0_length_8abf5_0 rfl ?_
  refine g_strV hi fl_RJ0_9 dJ0_length_8abf5_1 ?_
  refine g_strL hi dJ0_length_8abf5_4 ?_
  refine g_aload_n dJ0_length_8abf5_5 rfl ?_
  refine g_strcall0 dJ0_length_8abf5_6 clJ0_coder_7d493 ml_RJ0_335 rfl hi (Nat.le_of_ble_eq_true rfl) ?_
  refine SJ_coder hi ?_
  refine g_ishr dJ0_length_8abf5_9 ?_
  rw [len_shr i hi]
  refine g_ireturn dJ0_length_8abf5_10 rfl (by first | rfl | exact nar_bI _) ?_
  exact h
theorem SJ_isLatin1 {d : Nat} {M : Mm} {Q : Po} {i : Nat} (hi : i < 6) (h : Q M (some (.int (nI 1)))) : Call (d + 1) mJ0_isLatin1_aae02 [.ref (NN + 2 + i)] M Q := by
  refine Call_of (m := mJ0_isLatin1_aae02) [some (.ref (NN + 2 + i))] rfl (fun G => Nat.le_of_ble_eq_true rfl) (fun G => rfl) ?_
  refine g_compact fl_RJ0_38 dJ0_isLatin1_aae02_0 ?_
  refine g_if_eq_n 17 dJ0_isLatin1_aae02_3 (by decide) (by omega) (fun c3 => ?_) (fun c3 => ?_)
  · exact absurd c3 (by decide)
  · refine g_aload_n dJ0_isLatin1_aae02_6 rfl ?_
    refine g_strC hi fl_RJ0_15 dJ0_isLatin1_aae02_7 ?_
    refine g_if_ne_n 17 dJ0_isLatin1_aae02_10 (by decide) (by omega) (fun c10 => ?_) (fun c10 => ?_)
    · exact absurd rfl c10
    · refine g_iconst (nI 1) dJ0_isLatin1_aae02_13 ki_1 ?_
      refine g_goto 18 dJ0_isLatin1_aae02_14 (by decide) ?_
      refine g_ireturn dJ0_isLatin1_aae02_18 rfl (by first | rfl | exact nar_bI _) ?_
      exact h
theorem SJ3_checkIndex_n {d : Nat} {M : Mm} {Q : Po} {j n : Nat} (hj : j < n) (hn : n < 100) (h : Q M (some (.int (nI j)))) : Call (d + 1) mJ3_checkIndex_8e157 [.int (nI j), .int (nI n), .null] M Q := by
  refine Call_of (m := mJ3_checkIndex_8e157) [some (.int (nI j)), some (.int (nI n)), some (.null)] rfl (fun G => Nat.le_of_ble_eq_true rfl) (fun G => rfl) ?_
  refine g_iload_n dJ3_checkIndex_8e157_0 rfl ?_
  refine g_if_lt_n 9 dJ3_checkIndex_8e157_1 (by decide) (by omega) ?_
  refine g_iload_n dJ3_checkIndex_8e157_4 rfl ?_
  refine g_iload_n dJ3_checkIndex_8e157_5 rfl ?_
  refine g_icmp_lt_n 16 dJ3_checkIndex_8e157_6 (by decide) (by omega) (by omega) (fun c6 => ?_) (fun c6 => ?_)
  · refine g_iload_n dJ3_checkIndex_8e157_16 rfl ?_
    refine g_ireturn dJ3_checkIndex_8e157_17 rfl (by first | rfl | exact nar_bI _) ?_
    exact h
  · exact absurd hj c6
theorem SJ3_checkIndex_r {d : Nat} {M : Mm} {Q : Po} {j n : Nat} (hj : j < n) (hn : n < 100) (h : Q M (some (.int (nI j)))) : Call (d + 1) mJ3_checkIndex_8e157 [.int (nI j), .int (nI n), .ref (NN + 14)] M Q := by
  refine Call_of (m := mJ3_checkIndex_8e157) [some (.int (nI j)), some (.int (nI n)), some (.ref (NN + 14))] rfl (fun G => Nat.le_of_ble_eq_true rfl) (fun G => rfl) ?_
  refine g_iload_n dJ3_checkIndex_8e157_0 rfl ?_
  refine g_if_lt_n 9 dJ3_checkIndex_8e157_1 (by decide) (by omega) ?_
  refine g_iload_n dJ3_checkIndex_8e157_4 rfl ?_
  refine g_iload_n dJ3_checkIndex_8e157_5 rfl ?_
  refine g_icmp_lt_n 16 dJ3_checkIndex_8e157_6 (by decide) (by omega) (by omega) (fun c6 => ?_) (fun c6 => ?_)
  · refine g_iload_n dJ3_checkIndex_8e157_16 rfl ?_
    refine g_ireturn dJ3_checkIndex_8e157_17 rfl (by first | rfl | exact nar_bI _) ?_
    exact h
  · exact absurd hj c6
theorem SJ0_checkIndex {d : Nat} {M : Mm} {Q : Po} {j n : Nat} (hj : j < n) (hn : n < 100) (h : Q M none) : Call (d + 2) mJ0_checkIndex_df160 [.int (nI j), .int (nI n)] M Q := by
  refine Call_of (m := mJ0_checkIndex_df160) [some (.int (nI j)), some (.int (nI n))] rfl (fun G => Nat.le_of_ble_eq_true rfl) (fun G => rfl) ?_
  refine g_iload_n dJ0_checkIndex_df160_0 rfl ?_
  refine g_iload_n dJ0_checkIndex_df160_1 rfl ?_
  refine g_sioobe fl_RJ0_1053 dJ0_checkIndex_df160_2 ?_ ?_
  · refine g_calls3 dJ0_checkIndex_df160_5 clJ3_checkIndex_8e157 ml_RJ0_1059 (Nat.le_of_ble_eq_true rfl) ?_
    refine SJ3_checkIndex_n hj hn ?_
    refine g_pop dJ0_checkIndex_df160_8 rfl ?_
    refine g_return dJ0_checkIndex_df160_9 rfl ?_
    exact h
  · refine g_calls3 dJ0_checkIndex_df160_5 clJ3_checkIndex_8e157 ml_RJ0_1059 (Nat.le_of_ble_eq_true rfl) ?_
    refine SJ3_checkIndex_r hj hn ?_
    refine g_pop dJ0_checkIndex_df160_8 rfl ?_
    refine g_return dJ0_checkIndex_df160_9 rfl ?_
    exact h
theorem ch_ok : ∀ i, i < 6 → ∀ j, j < strL.getD i 0 → ((chI i j &&& nI 255).toUInt32 % 65536).toInt32 = chI i j ∧ narrow .char (.int (chI i j)) = .int (chI i j) := by decide +kernel
theorem SJ1_charAt {d : Nat} {M : Mm} {Q : Po} {i j : Nat} (hi : i < 6) (hj : j < strL.getD i 0) (h : Q M (some (.int (chI i j)))) : Call (d + 3) mJ1_charAt_3b067 [.ref (NN + 8 + i), .int (nI j)] M Q := by
  have h7 := strL_le (i := i)
  refine Call_of (m := mJ1_charAt_3b067) [some (.ref (NN + 8 + i)), some (.int (nI j))] rfl (fun G => Nat.le_of_ble_eq_true rfl) (fun G => rfl) ?_
  refine g_iload_n dJ1_charAt_3b067_0 rfl ?_
  refine g_aload_n dJ1_charAt_3b067_1 rfl ?_
  refine g_strL hi dJ1_charAt_3b067_2 ?_
  refine g_calls2 dJ1_charAt_3b067_3 clJ0_checkIndex_df160 ml_RJ1_9 (Nat.le_of_ble_eq_true rfl) ?_
  refine SJ0_checkIndex hj (by omega) ?_
  refine g_aload_n dJ1_charAt_3b067_6 rfl ?_
  refine g_iload_n dJ1_charAt_3b067_7 rfl ?_
  refine g_strB hi hj dJ1_charAt_3b067_8 ?_
  refine g_sipush (nI 255) dJ1_charAt_3b067_9 ks_255 ?_
  refine g_iand dJ1_charAt_3b067_12 ?_
  refine g_i2c (chI i j) (ch_ok i hi j hj).1 dJ1_charAt_3b067_13 ?_
  refine g_ireturn dJ1_charAt_3b067_14 rfl (ch_ok i hi j hj).2 ?_
  exact h
theorem SJ_charAt {d : Nat} {M : Mm} {Q : Po} {i j : Nat} (hi : i < 6) (hj : j < strL.getD i 0) (h : Q M (some (.int (chI i j)))) : Call (d + 4) mJ0_charAt_5068e [.ref (NN + 2 + i), .int (nI j)] M Q := by
  refine Call_of (m := mJ0_charAt_5068e) [some (.ref (NN + 2 + i)), some (.int (nI j))] rfl (fun G => Nat.le_of_ble_eq_true rfl) (fun G => rfl) ?_
  refine g_aload_n dJ0_charAt_5068e_0 rfl ?_
  refine g_strcall0 dJ0_charAt_5068e_1 clJ0_isLatin1_aae02 ml_RJ0_492 rfl hi (Nat.le_of_ble_eq_true rfl) ?_
  refine SJ_isLatin1 hi ?_
  refine g_if_eq_n 16 dJ0_charAt_5068e_4 (by decide) (by omega) (fun c4 => ?_) (fun c4 => ?_)
  · exact absurd c4 (by decide)
  · refine g_aload_n dJ0_charAt_5068e_7 rfl ?_
    refine g_strV hi fl_RJ0_9 dJ0_charAt_5068e_8 ?_
    refine g_iload_n dJ0_charAt_5068e_11 rfl ?_
    refine g_calls2 dJ0_charAt_5068e_12 clJ1_charAt_3b067 ml_RJ0_495 (Nat.le_of_ble_eq_true rfl) ?_
    refine SJ1_charAt hi hj ?_
    refine g_ireturn dJ0_charAt_5068e_15 rfl (ch_ok i hi j hj).2 ?_
    exact h
/-! CONDITIONS: words and comparisons; in the class -/
def ltr (b : Nat) : Bool := decide (97 ≤ b ∧ b ≤ 122)
def wdG (n : Nat) (t : Nat → Nat) : Nat → Nat → Nat
  | 0, a => a
  | k + 1, a => if ltr (tb n t a) = true then wdG n t k (a + 1) else a
theorem wdG_le {n : Nat} {t : Nat → Nat} : ∀ {k a : Nat}, a ≤ n → a ≤ wdG n t k a ∧ wdG n t k a ≤ n
  | 0, a, h => ⟨Nat.le_refl a, h⟩
  | k + 1, a, h => by
    rw [wdG]
    split
    · rename_i z
      have hl : 97 ≤ tb n t a ∧ tb n t a ≤ 122 := of_decide_eq_true z
      have hlt := tb_lt (n := n) (t := t) (i := a) rfl (by omega)
      have := wdG_le (n := n) (t := t) (k := k) (a := a + 1) (by omega)
      omega
    · omega
def wdB (n : Nat) (t : Nat → Nat) (a e i : Nat) : Bool := decide (e - a = strL.getD i 0 ∧ ∀ j, j < strL.getD i 0 → nI (tb n t (a + j)) = chI i j)
def wdI (n : Nat) (t : Nat → Nat) (a e : Nat) : Nat := if wdB n t a e 0 = true then 0 else if wdB n t a e 1 = true then 1 else if wdB n t a e 2 = true then 2 else if wdB n t a e 3 = true then 3 else if wdB n t a e 4 = true then 4 else if wdB n t a e 5 = true then 5 else 6
theorem wdI_le (n : Nat) (t : Nat → Nat) (a e : Nat) : wdI n t a e ≤ 6 := by
  unfold wdI
  split
  · omega
  · split
    · omega
    · split
      · omega
      · split
        · omega
        · split
          · omega
          · split <;> omega
theorem ST_passWord {d : Nat} {n : Nat} {t : Nat → Nat} {M : Mm} {Q : Po} {q : TS} {a : Nat} (hT : TC n t M q) (ha : a ≤ n) (e2 : M 41 2 = nI a) (ea : ∀ b, q = .inl b → b = a) (h : ∀ M', EqO [41] M M' → TC n t M' (mvT (wdG n t 150 a) q) → M' 41 2 = nI (wdG n t 150 a) → Q M' none) : Call (d + 2) mT_passWord [.ref 41] M Q := by
  have hn := hT.1.1
  refine Call_of (m := mT_passWord) [some (.ref 41), none] rfl (fun G => Nat.le_of_ble_eq_true rfl) (fun G => rfl) ?_
  refine g_iconst (nI 0) dX7_passWord_0 ki_0 ?_
  refine g_ist2_1 dX7_passWord_1 (by decide) rfl ?_
  suffices hloop : ∀ k i M', i + k = 150 → a + i ≤ n → EqO [41] M M' → TC n t M' (mvT (a + i) q) → M' 41 2 = nI (a + i) → wdG n t 150 a = wdG n t k (a + i) → Go mT_passWord (d + 2) Q 2 [some (.ref 41), some (.int (nI i))] [] M' by
    exact hloop 150 0 M rfl ha EqO.rf (by rw [Nat.add_zero, mvT_at (n := n) (t := t) (M := M) ea]; exact hT) e2 rfl
  intro k
  induction k with
  | zero =>
    intro i M' hik hai hE hT2 h2 hg
    refine g_iload_n dX7_passWord_2 rfl ?_
    refine g_sipush (nI 150) dX7_passWord_3 ks_150 ?_
    refine g_icmp_ge_n 43 dX7_passWord_6 (by decide) (by omega) (by omega) (fun c6 => ?_) (fun c6 => ?_)
    · refine g_return dX7_passWord_43 rfl ?_
      have hg : wdG n t 150 a = a + i := hg
      refine h M' hE (by rw [hg]; exact hT2) (by rw [hg]; exact h2)
    · exact absurd hik (by omega)
  | succ k ih =>
    intro i M' hik hai hE hT2 h2 hg
    have hb := hT2.1.tb_le (a + i)
    have hex : ¬ ltr (tb n t (a + i)) = true → Go mT_passWord (d + 2) Q 43 [some (.ref 41), some (.int (nI i))] [] M' := by
      intro hz
      have hg := hg.trans (show wdG n t (k + 1) (a + i) = a + i by rw [wdG, if_neg hz])
      refine g_return dX7_passWord_43 rfl ?_
      refine h M' hE (by rw [hg]; exact hT2) (by rw [hg]; exact h2)
    refine g_iload_n dX7_passWord_2 rfl ?_
    refine g_sipush (nI 150) dX7_passWord_3 ks_150 ?_
    refine g_icmp_ge_n 43 dX7_passWord_6 (by decide) (by omega) (by omega) (fun c6 => ?_) (fun c6 => ?_)
    · exact absurd hik (by omega)
    · refine g_aload_n dX7_passWord_9 rfl ?_
      refine g_call0 dX7_passWord_10 clT_byteHere ml_T_25 gc7 rfl rfl (by decide) (Nat.le_of_ble_eq_true rfl) ?_
      refine ST_byteHere hT2.1 hai h2 ?_
      refine g_bipush (nI 97) dX7_passWord_13 kb_97 ?_
      refine g_icmp_lt_n 43 dX7_passWord_15 (by decide) (by omega) (by omega) (fun c15 => ?_) (fun c15 => ?_)
      · exact hex (by unfold ltr; rw [decide_eq_true_eq]; omega)
      · refine g_aload_n dX7_passWord_18 rfl ?_
        refine g_call0 dX7_passWord_19 clT_byteHere ml_T_25 gc7 rfl rfl (by decide) (Nat.le_of_ble_eq_true rfl) ?_
        refine ST_byteHere hT2.1 hai h2 ?_
        refine g_bipush (nI 122) dX7_passWord_22 kb_122 ?_
        refine g_icmp_gt_n 43 dX7_passWord_24 (by decide) (by omega) (by omega) (fun c24 => ?_) (fun c24 => ?_)
        · exact hex (by unfold ltr; rw [decide_eq_true_eq]; omega)
        · have hl : ltr (tb n t (a + i)) = true := decide_eq_true (by omega)
          have hlt := tb_lt (n := n) (t := t) (i := a + i) rfl (by omega)
          have hg := hg.trans (show wdG n t (k + 1) (a + i) = wdG n t k (a + i + 1) by rw [wdG, if_pos hl])
          refine g_aload_n dX7_passWord_27 rfl ?_
          refine g_dup dX7_passWord_28 rfl ?_
          refine g_geti (j := 2) dX7_passWord_29 gc7 rfl (by decide) rfl (by decide) fl_T_19 ?_
          try simp (disch := omega) only [h2]
          refine g_iconst (nI 1) dX7_passWord_32 ki_1 ?_
          first | refine g_iadd_n dX7_passWord_33 ?_ | refine g_iadd dX7_passWord_33 ?_
          refine g_puti (j := 2) dX7_passWord_34 gc7 rfl (by decide) rfl (by decide) fl_T_19 rfl (tyX7_ok 2 (by decide)) (by first | rfl | exact nar_bI _) rfl ?_
          first | refine g_incn2_1 dX7_passWord_37 ki_1 (by decide) rfl ?_ | refine g_incg2_1 (nI 1) dX7_passWord_37 ki_1 (by decide) rfl ?_
          refine g_goto 2 dX7_passWord_40 (by decide) ?_
          refine ih (i + 1) _ (by omega) (by omega) (hE.tr (EqO.set (by decide))) ?_ (mset_at _ _ _ _) hg
          have := hT2.mv (b := a + i + 1) (by omega)
          rw [mvT_mv] at this
          exact this
theorem ST_isWordFrom {d : Nat} {n : Nat} {t : Nat → Nat} {M : Mm} {Q : Po} {a e i : Nat} (hi : i < 6) (hT : TPc n t M) (ha : a ≤ e) (he : e ≤ n) (e2 : M 41 2 = nI e) (h : Q M (some (.int (bI (wdB n t a e i))))) : Call (d + 5) mT_isWordFrom [.ref 41, .int (nI a), .ref (NN + 2 + i)] M Q := by
  have hn := hT.1
  have h7 := strL_le (i := i)
  have hbad : wdB n t a e i = false → ∀ ls, ls = [some (.ref 41), some (.int (nI a)), some (.ref (NN + 2 + i)), none] → Go mT_isWordFrom (d + 5) Q 27 ls [] M := by
    intro hf ls e
    subst e
    refine g_iconst (nI 0) dX7_isWordFrom_27 ki_0 ?_
    refine g_ireturn dX7_isWordFrom_28 rfl (by first | rfl | exact nar_bI _) ?_
    exact qb_f h hf
  refine Call_of (m := mT_isWordFrom) [some (.ref 41), some (.int (nI a)), some (.ref (NN + 2 + i)), none] rfl (fun G => Nat.le_of_ble_eq_true rfl) (fun G => rfl) ?_
  refine g_iload_n dX7_isWordFrom_0 rfl ?_
  refine g_if_lt_n 27 dX7_isWordFrom_1 (by decide) (by omega) ?_
  refine g_aload_n dX7_isWordFrom_4 rfl ?_
  refine g_geti (j := 2) dX7_isWordFrom_5 gc7 rfl (by decide) rfl (by decide) fl_T_19 ?_
  try simp (disch := omega) only [e2]
  refine g_sipush (nI 150) dX7_isWordFrom_8 ks_150 ?_
  refine g_icmp_gt_n 27 dX7_isWordFrom_11 (by decide) (by omega) (by omega) (fun c11 => ?_) (fun c11 => ?_)
  · exact absurd c11 (by omega)
  · refine g_aload_n dX7_isWordFrom_14 rfl ?_
    refine g_geti (j := 2) dX7_isWordFrom_15 gc7 rfl (by decide) rfl (by decide) fl_T_19 ?_
    try simp (disch := omega) only [e2]
    refine g_iload_n dX7_isWordFrom_18 rfl ?_
    first | refine g_isub_n dX7_isWordFrom_19 (by omega) ?_ | refine g_isub dX7_isWordFrom_19 ?_
    refine g_aload_n dX7_isWordFrom_20 rfl ?_
    refine g_strcall0 dX7_isWordFrom_21 clJ0_length_8abf5 ml_T_44 rfl hi (Nat.le_of_ble_eq_true rfl) ?_
    refine SJ_length hi ?_
    refine g_icmp_eq_n 29 dX7_isWordFrom_24 (by decide) (by omega) (by omega) (fun c24 => ?_) (fun c24 => ?_)
    · refine g_iconst (nI 0) dX7_isWordFrom_29 ki_0 ?_
      refine g_ist4_3 dX7_isWordFrom_30 (by decide) rfl ?_
      refine loop_up (P := fun j => (∀ y, y < j → nI (tb n t (a + y)) = chI i y) → Go mT_isWordFrom (d + 5) Q 31 [some (.ref 41), some (.int (nI a)), some (.ref (NN + 2 + i)), some (.int (nI j))] [] M) (strL.getD i 0) ?_ 0 (Nat.zero_le _) (fun y hy => absurd hy (by omega))
      intro j hj jh hok
      refine g_iload_n dX7_isWordFrom_31 rfl ?_
      refine g_aload_n dX7_isWordFrom_32 rfl ?_
      refine g_strcall0 dX7_isWordFrom_33 clJ0_length_8abf5 ml_T_44 rfl hi (Nat.le_of_ble_eq_true rfl) ?_
      refine SJ_length hi ?_
      refine g_icmp_ge_n 63 dX7_isWordFrom_36 (by decide) (by omega) (by omega) (fun c36 => ?_) (fun c36 => ?_)
      · refine g_iconst (nI 1) dX7_isWordFrom_63 ki_1 ?_
        refine g_ireturn dX7_isWordFrom_64 rfl (by first | rfl | exact nar_bI _) ?_
        exact qb_t h (decide_eq_true ⟨c24, fun y hy => hok y (by omega)⟩)
      · have e42 : M 42 (a + j) = nI (t (a + j)) := hT.2.2.2 _ (by omega)
        have etb : tb n t (a + j) = t (a + j) := if_pos (by omega)
        refine g_aload_n dX7_isWordFrom_39 rfl ?_
        refine g_getr (j := 0) dX7_isWordFrom_40 gc7 rfl (by decide) rfl (by decide) fl_T_9 ?_
        refine g_iload_n dX7_isWordFrom_43 rfl ?_
        refine g_iload_n dX7_isWordFrom_44 rfl ?_
        first | refine g_iadd_n dX7_isWordFrom_45 ?_ | refine g_iadd dX7_isWordFrom_45 ?_
        refine g_iald_n dX7_isWordFrom_46 (by first | rfl | assumption) (by first | decide | assumption) (by omega) (by omega) ?_
        try simp (disch := omega) only [e42]
        refine g_aload_n dX7_isWordFrom_47 rfl ?_
        refine g_iload_n dX7_isWordFrom_48 rfl ?_
        refine g_strcall1 dX7_isWordFrom_49 clJ0_charAt_5068e ml_T_49 rfl hi (Nat.le_of_ble_eq_true rfl) ?_
        refine SJ_charAt hi (by omega) ?_
        refine g_icmp_eq 57 dX7_isWordFrom_52 (by decide) (fun c52 => ?_) (fun c52 => ?_)
        · first | refine g_incn4_3 dX7_isWordFrom_57 ki_1 (by decide) rfl ?_ | refine g_incg4_3 (nI 1) dX7_isWordFrom_57 ki_1 (by decide) rfl ?_
          refine g_goto 31 dX7_isWordFrom_60 (by decide) ?_
          refine jh (by omega) (fun y hy => ?_)
          by_cases z : y = j
          · rw [z, etb]; exact c52
          · exact hok y (by omega)
        · refine g_iconst (nI 0) dX7_isWordFrom_55 ki_0 ?_
          refine g_ireturn dX7_isWordFrom_56 rfl (by first | rfl | exact nar_bI _) ?_
          refine qb_f h (decide_eq_false (fun z => c52 ?_))
          have := z.2 j (by omega)
          rw [etb] at this
          exact this
    · exact hbad (decide_eq_false (fun z => c24 z.1)) _ rfl
def wv (k : Nat) : Int32 := if k = 6 then -1 else nI k
theorem SC_wordFrom {d : Nat} {n : Nat} {t : Nat → Nat} {M : Mm} {Q : Po} {a e : Nat} (hT : TPc n t M) (ha : a ≤ e) (he : e ≤ n) (e2 : M 41 2 = nI e) (h : Q M (some (.int (wv (wdI n t a e))))) : Call (d + 6) mC_wordFrom [.ref 50, .int (nI a)] M Q := by
  unfold wdI at h
  refine Call_of (m := mC_wordFrom) [some (.ref 50), some (.int (nI a))] rfl (fun G => Nat.le_of_ble_eq_true rfl) (fun G => rfl) ?_
  refine g_aload_n dX1_wordFrom_0 rfl ?_
  refine g_getr (j := 1) dX1_wordFrom_1 gc1 rfl (by decide) rfl (by decide) fl_C_19 ?_
  refine g_iload_n dX1_wordFrom_4 rfl ?_
  refine g_ldcS 0 rfl rfl dX1_wordFrom_5 ?_
  refine g_call2 dX1_wordFrom_7 clT_isWordFrom ml_C_96 gc7 rfl rfl (by decide) (Nat.le_of_ble_eq_true rfl) ?_
  refine ST_isWordFrom (by omega) hT ha he e2 ?_
  refine g_if_eq_b 15 dX1_wordFrom_10 (by decide) (fun c10 => ?_) (fun c10 => ?_)
  · rw [if_neg (by rw [c10]; decide)] at h
    refine g_aload_n dX1_wordFrom_15 rfl ?_
    refine g_getr (j := 1) dX1_wordFrom_16 gc1 rfl (by decide) rfl (by decide) fl_C_19 ?_
    refine g_iload_n dX1_wordFrom_19 rfl ?_
    refine g_ldcS 1 rfl rfl dX1_wordFrom_20 ?_
    refine g_call2 dX1_wordFrom_22 clT_isWordFrom ml_C_96 gc7 rfl rfl (by decide) (Nat.le_of_ble_eq_true rfl) ?_
    refine ST_isWordFrom (by omega) hT ha he e2 ?_
    refine g_if_eq_b 30 dX1_wordFrom_25 (by decide) (fun c25 => ?_) (fun c25 => ?_)
    · rw [if_neg (by rw [c25]; decide)] at h
      refine g_aload_n dX1_wordFrom_30 rfl ?_
      refine g_getr (j := 1) dX1_wordFrom_31 gc1 rfl (by decide) rfl (by decide) fl_C_19 ?_
      refine g_iload_n dX1_wordFrom_34 rfl ?_
      refine g_ldcS 2 rfl rfl dX1_wordFrom_35 ?_
      refine g_call2 dX1_wordFrom_37 clT_isWordFrom ml_C_96 gc7 rfl rfl (by decide) (Nat.le_of_ble_eq_true rfl) ?_
      refine ST_isWordFrom (by omega) hT ha he e2 ?_
      refine g_if_eq_b 45 dX1_wordFrom_40 (by decide) (fun c40 => ?_) (fun c40 => ?_)
      · rw [if_neg (by rw [c40]; decide)] at h
        refine g_aload_n dX1_wordFrom_45 rfl ?_
        refine g_getr (j := 1) dX1_wordFrom_46 gc1 rfl (by decide) rfl (by decide) fl_C_19 ?_
        refine g_iload_n dX1_wordFrom_49 rfl ?_
        refine g_ldcS 3 rfl rfl dX1_wordFrom_50 ?_
        refine g_call2 dX1_wordFrom_52 clT_isWordFrom ml_C_96 gc7 rfl rfl (by decide) (Nat.le_of_ble_eq_true rfl) ?_
        refine ST_isWordFrom (by omega) hT ha he e2 ?_
        refine g_if_eq_b 60 dX1_wordFrom_55 (by decide) (fun c55 => ?_) (fun c55 => ?_)
        · rw [if_neg (by rw [c55]; decide)] at h
          refine g_aload_n dX1_wordFrom_60 rfl ?_
          refine g_getr (j := 1) dX1_wordFrom_61 gc1 rfl (by decide) rfl (by decide) fl_C_19 ?_
          refine g_iload_n dX1_wordFrom_64 rfl ?_
          refine g_ldcS 4 rfl rfl dX1_wordFrom_65 ?_
          refine g_call2 dX1_wordFrom_67 clT_isWordFrom ml_C_96 gc7 rfl rfl (by decide) (Nat.le_of_ble_eq_true rfl) ?_
          refine ST_isWordFrom (by omega) hT ha he e2 ?_
          refine g_if_eq_b 75 dX1_wordFrom_70 (by decide) (fun c70 => ?_) (fun c70 => ?_)
          · rw [if_neg (by rw [c70]; decide)] at h
            refine g_aload_n dX1_wordFrom_75 rfl ?_
            refine g_getr (j := 1) dX1_wordFrom_76 gc1 rfl (by decide) rfl (by decide) fl_C_19 ?_
            refine g_iload_n dX1_wordFrom_79 rfl ?_
            refine g_ldcS 5 rfl rfl dX1_wordFrom_80 ?_
            refine g_call2 dX1_wordFrom_82 clT_isWordFrom ml_C_96 gc7 rfl rfl (by decide) (Nat.le_of_ble_eq_true rfl) ?_
            refine ST_isWordFrom (by omega) hT ha he e2 ?_
            refine g_if_eq_b 92 dX1_wordFrom_85 (by decide) (fun c85 => ?_) (fun c85 => ?_)
            · rw [if_neg (by rw [c85]; decide)] at h
              refine g_iconst ((-1)) dX1_wordFrom_92 ki_m1 ?_
              refine g_ireturn dX1_wordFrom_93 rfl (by first | rfl | exact nar_bI _) ?_
              exact h
            · rw [if_pos c85] at h
              refine g_iconst (nI 5) dX1_wordFrom_88 ki_5 ?_
              refine g_goto 93 dX1_wordFrom_89 (by decide) ?_
              refine g_ireturn dX1_wordFrom_93 rfl (by first | rfl | exact nar_bI _) ?_
              exact h
          · rw [if_pos c70] at h
            refine g_iconst (nI 4) dX1_wordFrom_73 ki_4 ?_
            refine g_ireturn dX1_wordFrom_74 rfl (by first | rfl | exact nar_bI _) ?_
            exact h
        · rw [if_pos c55] at h
          refine g_iconst (nI 3) dX1_wordFrom_58 ki_3 ?_
          refine g_ireturn dX1_wordFrom_59 rfl (by first | rfl | exact nar_bI _) ?_
          exact h
      · rw [if_pos c40] at h
        refine g_iconst (nI 2) dX1_wordFrom_43 ki_2 ?_
        refine g_ireturn dX1_wordFrom_44 rfl (by first | rfl | exact nar_bI _) ?_
        exact h
    · rw [if_pos c25] at h
      refine g_iconst (nI 1) dX1_wordFrom_28 ki_1 ?_
      refine g_ireturn dX1_wordFrom_29 rfl (by first | rfl | exact nar_bI _) ?_
      exact h
  · rw [if_pos c10] at h
    refine g_iconst (nI 0) dX1_wordFrom_13 ki_0 ?_
    refine g_ireturn dX1_wordFrom_14 rfl (by first | rfl | exact nar_bI _) ?_
    exact h
/-- behind the word: the sign and the number -/
def cqP (n : Nat) (t : Nat → Nat) (v : Int32) (q : TS) : TS × Bool :=
  if tk n t 60 q = true then (nuS n t 0 999 (tkS n t 60 q), decide (v < nI (nuV n t (tkS n t 60 q))))
  else if tk n t 62 q = true then (nuS n t 0 999 (tkS n t 62 q), decide (nI (nuV n t (tkS n t 62 q)) < v))
  else (nuS n t 0 999 (mu n t 61 q), decide (v = nI (nuV n t (mu n t 61 q))))
def cmP (n : Nat) (t : Nat → Nat) (V : Nat → Int32) : TS → TS × Bool
  | .inl a => if wdI n t a (wdG n t 150 a) = 6 then (.inr a, false) else cqP n t (V (wdI n t a (wdG n t 150 a))) (.inl (wdG n t 150 a))
  | .inr f => (.inr f, false)
theorem SC_readComparison {d : Nat} {n : Nat} {t : Nat → Nat} {M : Mm} {Q : Po} {V : Nat → Int32} {q : TS} (hT : TC n t M q) (hV : ∀ w, w < 6 → M 51 w = V w) (h : ∀ M' b, EqO [41] M M' → TC n t M' (cmP n t V q).1 → (okB (cmP n t V q).1 = true → b = (cmP n t V q).2) → Q M' (some (.int (bI b)))) : Call (d + 7) mC_readComparison [.ref 50] M Q := by
  obtain ⟨a, ha, e2, ea⟩ := hT.at
  obtain ⟨w1, w2⟩ := wdG_le (n := n) (t := t) (k := 150) ha
  have w6 := wdI_le n t a (wdG n t 150 a)
  refine Call_of (m := mC_readComparison) [some (.ref 50), none, none] rfl (fun G => Nat.le_of_ble_eq_true rfl) (fun G => rfl) ?_
  refine g_aload_n dX1_readComparison_0 rfl ?_
  refine g_getr (j := 1) dX1_readComparison_1 gc1 rfl (by decide) rfl (by decide) fl_C_19 ?_
  refine g_call0 dX1_readComparison_4 clT_at ml_C_78 gc7 rfl rfl (by decide) (Nat.le_of_ble_eq_true rfl) ?_
  refine ST_at ?_
  rw [e2]
  refine g_ist3_1 dX1_readComparison_7 (by decide) rfl ?_
  refine g_aload_n dX1_readComparison_8 rfl ?_
  refine g_getr (j := 1) dX1_readComparison_9 gc1 rfl (by decide) rfl (by decide) fl_C_19 ?_
  refine g_call0 dX1_readComparison_12 clT_passWord ml_C_82 gc7 rfl rfl (by decide) (Nat.le_of_ble_eq_true rfl) ?_
  refine ST_passWord hT ha e2 ea (fun M1 hE1 hT1 e21 => ?_)
  refine g_aload_n dX1_readComparison_15 rfl ?_
  refine g_iload_n dX1_readComparison_16 rfl ?_
  refine g_call1 dX1_readComparison_17 clC_wordFrom ml_C_85 gc1 rfl rfl (by decide) (Nat.le_of_ble_eq_true rfl) ?_
  refine SC_wordFrom hT1.1 w1 w2 e21 ?_
  by_cases hw : wdI n t a (wdG n t 150 a) = 6
  · rw [hw]
    refine g_ist3_2 dX1_readComparison_20 (by decide) rfl ?_
    refine g_iload_n dX1_readComparison_21 rfl ?_
    refine g_if_lt 31 dX1_readComparison_22 (by decide) (fun c22 => ?_) (fun c22 => ?_)
    · refine g_aload_n dX1_readComparison_31 rfl ?_
      refine g_getr (j := 1) dX1_readComparison_32 gc1 rfl (by decide) rfl (by decide) fl_C_19 ?_
      refine g_iload_n dX1_readComparison_35 rfl ?_
      refine g_call1 dX1_readComparison_36 clT_fail ml_C_88 gc7 rfl rfl (by decide) (Nat.le_of_ble_eq_true rfl) ?_
      refine ST_fail (p := a) hT1 (fun b _ => ⟨rfl, ha⟩) (fun M2 hE2 hT2 => ?_)
      refine g_iconst (nI 0) dX1_readComparison_39 ki_0 ?_
      refine g_ireturn dX1_readComparison_40 rfl (by first | rfl | exact nar_bI _) ?_
      refine h M2 false (hE1.tr hE2) ?_ (fun hok => ?_)
      · cases q with
        | inl b =>
          obtain rfl := ea b rfl
          simp only [cmP]
          rw [if_pos hw]
          exact hT2
        | inr f => exact hT2
      · cases q with
        | inl b =>
          obtain rfl := ea b rfl
          simp only [cmP] at hok
          rw [if_pos hw] at hok
          cases hok
        | inr f => cases hok
    · exact absurd (show wv 6 < 0 from by decide) c22
  · rw [show wv (wdI n t a (wdG n t 150 a)) = nI (wdI n t a (wdG n t 150 a)) from if_neg hw]
    have hcm : ∀ M' b, EqO [41] M M' → TC n t M' (cqP n t (V (wdI n t a (wdG n t 150 a))) (mvT (wdG n t 150 a) q)).1 → (okB (cqP n t (V (wdI n t a (wdG n t 150 a))) (mvT (wdG n t 150 a) q)).1 = true → b = (cqP n t (V (wdI n t a (wdG n t 150 a))) (mvT (wdG n t 150 a) q)).2) → Q M' (some (.int (bI b))) := by
      intro M' b hE hT' hb
      refine h M' b hE ?_ (fun hok => ?_)
      · cases q with
        | inl x =>
          obtain rfl := ea x rfl
          simp only [cmP]
          rw [if_neg hw]
          exact hT'
        | inr f => exact hT'
      · cases q with
        | inl x =>
          obtain rfl := ea x rfl
          simp only [cmP] at hok ⊢
          rw [if_neg hw] at hok ⊢
          exact hb hok
        | inr f => cases hok
    clear h
    generalize wdI n t a (wdG n t 150 a) = w at hcm hw w6
    generalize mvT (wdG n t 150 a) q = q2 at hT1 hcm
    have hw6 : w < 6 := by omega
    have hV1 : ∀ M', EqO [41] M M' → M' 51 w = V w := fun M' hE => by rw [hE 51 (by decide)]; exact hV w hw6
    unfold cqP at hcm
    refine g_ist3_2 dX1_readComparison_20 (by decide) rfl ?_
    refine g_iload_n dX1_readComparison_21 rfl ?_
    refine g_if_lt_n 31 dX1_readComparison_22 (by decide) (by omega) ?_
    refine g_iload_n dX1_readComparison_25 rfl ?_
    refine g_bipush (nI 6) dX1_readComparison_26 kb_6 ?_
    refine g_icmp_lt_n 41 dX1_readComparison_28 (by decide) (by omega) (by omega) (fun c28 => ?_) (fun c28 => ?_)
    · refine g_aload_n dX1_readComparison_41 rfl ?_
      refine g_getr (j := 1) dX1_readComparison_42 gc1 rfl (by decide) rfl (by decide) fl_C_19 ?_
      refine g_bipush (nI 60) dX1_readComparison_45 kb_60 ?_
      refine g_call1 dX1_readComparison_47 clT_takesIf ml_C_66 gc7 rfl rfl (by decide) (Nat.le_of_ble_eq_true rfl) ?_
      refine ST_takesIf (c := 60) (by omega) hT1 (fun M2 hE2 hT2 => ?_)
      have hv2 := hV1 M2 (hE1.tr hE2)
      refine g_if_eq_b 79 dX1_readComparison_50 (by decide) (fun c50 => ?_) (fun c50 => ?_)
      · rw [if_neg (c := tk n t 60 q2 = true) (by rw [c50]; decide)] at hcm
        rw [tkS_f c50] at hT2
        refine g_aload_n dX1_readComparison_79 rfl ?_
        refine g_getr (j := 1) dX1_readComparison_80 gc1 rfl (by decide) rfl (by decide) fl_C_19 ?_
        refine g_bipush (nI 62) dX1_readComparison_83 kb_62 ?_
        refine g_call1 dX1_readComparison_85 clT_takesIf ml_C_66 gc7 rfl rfl (by decide) (Nat.le_of_ble_eq_true rfl) ?_
        refine ST_takesIf (c := 62) (by omega) hT2 (fun M3 hE3 hT3 => ?_)
        have hv3 := hV1 M3 (hE1.tr (hE2.tr hE3))
        refine g_if_eq_b 117 dX1_readComparison_88 (by decide) (fun c88 => ?_) (fun c88 => ?_)
        · rw [if_neg (c := tk n t 62 q2 = true) (by rw [c88]; decide)] at hcm
          rw [tkS_f c88] at hT3
          dsimp only at hcm
          have hlast : ∀ M5, EqO [41] M M5 → TC n t M5 (mu n t 61 q2) → Go mC_readComparison (d + 7) Q 143 [some (.ref 50), some (.int (nI a)), some (.int (nI w))] [] M5 := by
            intro M5 hE5 hT5
            have hv5 := hV1 M5 hE5
            refine g_aload_n dX1_readComparison_143 rfl ?_
            refine g_getr (j := 2) dX1_readComparison_144 gc1 rfl (by decide) rfl (by decide) fl_C_11 ?_
            refine g_iload_n dX1_readComparison_147 rfl ?_
            refine g_iald_n dX1_readComparison_148 (by first | rfl | assumption) (by first | decide | assumption) (by omega) (by omega) ?_
            try simp (disch := omega) only [hv5]
            refine g_aload_n dX1_readComparison_149 rfl ?_
            refine g_getr (j := 1) dX1_readComparison_150 gc1 rfl (by decide) rfl (by decide) fl_C_19 ?_
            refine g_iconst (nI 0) dX1_readComparison_153 ki_0 ?_
            refine g_sipush (nI 999) dX1_readComparison_154 ks_999 ?_
            refine g_call2 dX1_readComparison_157 clT_takeNumber ml_C_91 gc7 rfl rfl (by decide) (Nat.le_of_ble_eq_true rfl) ?_
            refine ST_takeNumber (lo := 0) (hi := 999) hT5 (fun _ => ⟨rfl, rfl⟩) (by omega) (by omega) (fun M6 v hE6 hT6 hv => ?_)
            refine g_icmp_ne 167 dX1_readComparison_160 (by decide) (fun c160 => ?_) (fun c160 => ?_)
            · refine g_iconst (nI 0) dX1_readComparison_167 ki_0 ?_
              refine g_ireturn dX1_readComparison_168 rfl (by first | rfl | exact nar_bI _) ?_
              refine hcm M6 false (hE5.tr hE6) hT6 (fun hok => ?_)
              rw [← hv (ok_nu hok).1]
              exact (decide_eq_false c160).symm
            · refine g_iconst (nI 1) dX1_readComparison_163 ki_1 ?_
              refine g_goto 168 dX1_readComparison_164 (by decide) ?_
              refine g_ireturn dX1_readComparison_168 rfl (by first | rfl | exact nar_bI _) ?_
              refine hcm M6 true (hE5.tr hE6) hT6 (fun hok => ?_)
              rw [← hv (ok_nu hok).1]
              exact (decide_eq_true c160).symm
          refine g_aload_n dX1_readComparison_117 rfl ?_
          refine g_getr (j := 1) dX1_readComparison_118 gc1 rfl (by decide) rfl (by decide) fl_C_19 ?_
          refine g_bipush (nI 61) dX1_readComparison_121 kb_61 ?_
          refine g_call1 dX1_readComparison_123 clT_takesIf ml_C_66 gc7 rfl rfl (by decide) (Nat.le_of_ble_eq_true rfl) ?_
          refine ST_takesIf (c := 61) (by omega) hT3 (fun M4 hE4 hT4 => ?_)
          refine g_if_ne_b 143 dX1_readComparison_126 (by decide) (fun c126 => ?_) (fun c126 => ?_)
          · refine hlast M4 (hE1.tr (hE2.tr (hE3.tr hE4))) ?_
            obtain ⟨b, e, e1, _, e3⟩ := tkS_t c126 (by omega)
            rw [e1] at hT4
            subst e
            simp only [mu]
            rw [if_pos e3]
            exact hT4
          · rw [tkS_f c126] at hT4
            refine g_aload_n dX1_readComparison_129 rfl ?_
            refine g_getr (j := 1) dX1_readComparison_130 gc1 rfl (by decide) rfl (by decide) fl_C_19 ?_
            refine g_aload_n dX1_readComparison_133 rfl ?_
            refine g_getr (j := 1) dX1_readComparison_134 gc1 rfl (by decide) rfl (by decide) fl_C_19 ?_
            refine g_call0 dX1_readComparison_137 clT_at ml_C_78 gc7 rfl rfl (by decide) (Nat.le_of_ble_eq_true rfl) ?_
            refine ST_at ?_
            refine g_call1 dX1_readComparison_140 clT_fail ml_C_88 gc7 rfl rfl (by decide) (Nat.le_of_ble_eq_true rfl) ?_
            refine ST_failA hT4 rfl (fun M5 hE5 hT5 => ?_)
            refine hlast M5 (hE1.tr (hE2.tr (hE3.tr (hE4.tr hE5)))) ?_
            cases q2 with
            | inl b =>
              have c126 : ¬ tb n t b = 61 := of_decide_eq_false c126
              simp only [mu]
              rw [if_neg c126]
              exact hT5
            | inr f => exact hT5
        · rw [if_pos c88] at hcm
          dsimp only at hcm
          refine g_aload_n dX1_readComparison_91 rfl ?_
          refine g_getr (j := 2) dX1_readComparison_92 gc1 rfl (by decide) rfl (by decide) fl_C_11 ?_
          refine g_iload_n dX1_readComparison_95 rfl ?_
          refine g_iald_n dX1_readComparison_96 (by first | rfl | assumption) (by first | decide | assumption) (by omega) (by omega) ?_
          try simp (disch := omega) only [hv5]
          refine g_aload_n dX1_readComparison_97 rfl ?_
          refine g_getr (j := 1) dX1_readComparison_98 gc1 rfl (by decide) rfl (by decide) fl_C_19 ?_
          refine g_iconst (nI 0) dX1_readComparison_101 ki_0 ?_
          refine g_sipush (nI 999) dX1_readComparison_102 ks_999 ?_
          refine g_call2 dX1_readComparison_105 clT_takeNumber ml_C_91 gc7 rfl rfl (by decide) (Nat.le_of_ble_eq_true rfl) ?_
          refine ST_takeNumber (lo := 0) (hi := 999) hT3 (fun _ => ⟨rfl, rfl⟩) (by omega) (by omega) (fun M6 v hE6 hT6 hv => ?_)
          refine g_icmp_le 115 dX1_readComparison_108 (by decide) (fun c108 => ?_) (fun c108 => ?_)
          · refine g_iconst (nI 0) dX1_readComparison_115 ki_0 ?_
            refine g_ireturn dX1_readComparison_116 rfl (by first | rfl | exact nar_bI _) ?_
            refine hcm M6 false (hE1.tr (hE2.tr (hE3.tr hE6))) hT6 (fun hok => ?_)
            rw [← hv (ok_nu hok).1]
            rw [hv3] at c108
            exact (decide_eq_false (Int32.not_lt.mpr c108)).symm
          · refine g_iconst (nI 1) dX1_readComparison_111 ki_1 ?_
            refine g_goto 116 dX1_readComparison_112 (by decide) ?_
            refine g_ireturn dX1_readComparison_116 rfl (by first | rfl | exact nar_bI _) ?_
            refine hcm M6 true (hE1.tr (hE2.tr (hE3.tr hE6))) hT6 (fun hok => ?_)
            rw [← hv (ok_nu hok).1]
            rw [hv3] at c108
            exact (decide_eq_true (Int32.not_le.mp c108)).symm
      · rw [if_pos c50] at hcm
        dsimp only at hcm
        refine g_aload_n dX1_readComparison_53 rfl ?_
        refine g_getr (j := 2) dX1_readComparison_54 gc1 rfl (by decide) rfl (by decide) fl_C_11 ?_
        refine g_iload_n dX1_readComparison_57 rfl ?_
        refine g_iald_n dX1_readComparison_58 (by first | rfl | assumption) (by first | decide | assumption) (by omega) (by omega) ?_
        try simp (disch := omega) only [hv5]
        refine g_aload_n dX1_readComparison_59 rfl ?_
        refine g_getr (j := 1) dX1_readComparison_60 gc1 rfl (by decide) rfl (by decide) fl_C_19 ?_
        refine g_iconst (nI 0) dX1_readComparison_63 ki_0 ?_
        refine g_sipush (nI 999) dX1_readComparison_64 ks_999 ?_
        refine g_call2 dX1_readComparison_67 clT_takeNumber ml_C_91 gc7 rfl rfl (by decide) (Nat.le_of_ble_eq_true rfl) ?_
        refine ST_takeNumber (lo := 0) (hi := 999) hT2 (fun _ => ⟨rfl, rfl⟩) (by omega) (by omega) (fun M6 v hE6 hT6 hv => ?_)
        refine g_icmp_ge 77 dX1_readComparison_70 (by decide) (fun c70 => ?_) (fun c70 => ?_)
        · refine g_iconst (nI 0) dX1_readComparison_77 ki_0 ?_
          refine g_ireturn dX1_readComparison_78 rfl (by first | rfl | exact nar_bI _) ?_
          refine hcm M6 false (hE1.tr (hE2.tr hE6)) hT6 (fun hok => ?_)
          rw [← hv (ok_nu hok).1]
          rw [hv2] at c70
          exact (decide_eq_false (Int32.not_lt.mpr c70)).symm
        · refine g_iconst (nI 1) dX1_readComparison_73 ki_1 ?_
          refine g_goto 78 dX1_readComparison_74 (by decide) ?_
          refine g_ireturn dX1_readComparison_78 rfl (by first | rfl | exact nar_bI _) ?_
          refine hcm M6 true (hE1.tr (hE2.tr hE6)) hT6 (fun hok => ?_)
          rw [← hv (ok_nu hok).1]
          rw [hv2] at c70
          exact (decide_eq_true (Int32.not_le.mp c70)).symm
    · exact absurd hw6 c28
/-! CONDITIONS: both, either, within; in the class -/
def anL (n : Nat) (t : Nat → Nat) (c : Nat) (cb : Bool → Bool → Bool) (fac : TS → TS × Bool) : Nat → TS × Bool → TS × Bool
  | 0, x => x
  | k + 1, x => if tk n t c x.1 = true then anL n t c cb fac k ((fac (tkS n t c x.1)).1, cb x.2 (fac (tkS n t c x.1)).2) else x
def boP (n : Nat) (t : Nat → Nat) (fac : TS → TS × Bool) (q : TS) : TS × Bool := anL n t 38 and fac 150 (fac q)
def eiP (n : Nat) (t : Nat → Nat) (fac : TS → TS × Bool) (q : TS) : TS × Bool := anL n t 124 or (boP n t fac) 150 (boP n t fac q)
def faP (n : Nat) (t : Nat → Nat) (V : Nat → Int32) : Nat → TS → TS × Bool
  | 0 => cmP n t V
  | r + 1 => fun q => if tk n t 33 q = true then ((faP n t V r (tkS n t 33 q)).1, !(faP n t V r (tkS n t 33 q)).2) else if tk n t 40 q = true then (mu n t 41 (eiP n t (faP n t V r) (tkS n t 40 q)).1, (eiP n t (faP n t V r) (tkS n t 40 q)).2) else cmP n t V q
theorem anL_st {n : Nat} {t : Nat → Nat} {c : Nat} {cb cb' : Bool → Bool → Bool} {fac fac' : TS → TS × Bool} (hf : ∀ q, (fac q).1 = (fac' q).1) : ∀ {k : Nat} {x x' : TS × Bool}, x.1 = x'.1 → (anL n t c cb fac k x).1 = (anL n t c cb' fac' k x').1
  | 0, x, x', h => h
  | k + 1, x, x', h => by
    rw [anL, anL, h]
    split
    · exact anL_st hf (hf _)
    · exact h
theorem boP_st {n : Nat} {t : Nat → Nat} {fac fac' : TS → TS × Bool} (hf : ∀ q, (fac q).1 = (fac' q).1) (q : TS) : (boP n t fac q).1 = (boP n t fac' q).1 := anL_st hf (hf q)
theorem eiP_st {n : Nat} {t : Nat → Nat} {fac fac' : TS → TS × Bool} (hf : ∀ q, (fac q).1 = (fac' q).1) (q : TS) : (eiP n t fac q).1 = (eiP n t fac' q).1 := anL_st (boP_st hf) (boP_st hf q)
theorem cmP_st {n : Nat} {t : Nat → Nat} (V V' : Nat → Int32) (q : TS) : (cmP n t V q).1 = (cmP n t V' q).1 := by
  cases q with
  | inl a =>
    simp only [cmP]
    split
    · rfl
    · unfold cqP
      split
      · rfl
      · split <;> rfl
  | inr f => rfl
theorem faP_st {n : Nat} {t : Nat → Nat} (V V' : Nat → Int32) : ∀ r q, (faP n t V r q).1 = (faP n t V' r q).1
  | 0, q => cmP_st V V' q
  | r + 1, q => by
    rw [faP, faP]
    dsimp only
    split
    · exact faP_st V V' r _
    · split
      · show mu n t 41 _ = mu n t 41 _
        rw [eiP_st (faP_st V V' r)]
      · exact cmP_st V V' q
def RdC (d n : Nat) (t : Nat → Nat) (V : Nat → Int32) (y : Me) (dep : Nat) (fac : TS → TS × Bool) : Prop := ∀ (M : Mm) (Q : Po) (q : TS), TC n t M q → (∀ w, w < 6 → M 51 w = V w) → (∀ M' b, EqO [41] M M' → TC n t M' (fac q).1 → (okB (fac q).1 = true → b = (fac q).2) → Q M' (some (.int (bI b)))) → Call d y [.ref 50, .int (nI dep)] M Q
theorem SC_readBoth {d n : Nat} {t : Nat → Nat} {V : Nat → Int32} {dep : Nat} {fac : TS → TS × Bool} (hf : RdC (d + 2) n t V mC_readOne dep fac) : RdC (d + 3) n t V mC_readBoth dep (fun q => anL n t 38 and fac 150 (fac q)) := by
  intro M Q q hT hV h
  dsimp only at h
  refine Call_of (m := mC_readBoth) [some (.ref 50), some (.int (nI dep)), none, none, none] rfl (fun G => Nat.le_of_ble_eq_true rfl) (fun G => rfl) ?_
  refine g_aload_n dX1_readBoth_0 rfl ?_
  refine g_iload_n dX1_readBoth_1 rfl ?_
  refine g_call1 dX1_readBoth_2 clC_readOne ml_C_69 gc1 rfl rfl (by decide) (Nat.le_of_ble_eq_true rfl) ?_
  refine hf M _ q hT hV (fun M1 b hE1 hT1 hb => ?_)
  refine g_ist5_2 dX1_readBoth_5 (by decide) rfl ?_
  refine g_iconst (nI 0) dX1_readBoth_6 ki_0 ?_
  refine g_ist5_3 dX1_readBoth_7 (by decide) rfl ?_
  suffices hloop : ∀ k i x b M', i + k = 150 → EqO [41] M M' → TC n t M' x.1 → (okB x.1 = true → b = x.2) → anL n t 38 and fac 150 (fac q) = anL n t 38 and fac k x → Go mC_readBoth (d + 3) Q 8 [some (.ref 50), some (.int (nI dep)), some (.int (bI b)), some (.int (nI i)), none] [] M' by
    exact hloop 150 0 (fac q) b M1 rfl hE1 hT1 hb rfl
  clear hT1 hb hE1 b M1
  intro k
  induction k with
  | zero =>
    intro i x b M' hik hE hT1 hb hg
    rw [hg, anL] at h
    refine g_iload_n dX1_readBoth_8 rfl ?_
    refine g_sipush (nI 150) dX1_readBoth_9 ks_150 ?_
    refine g_icmp_ge_n 55 dX1_readBoth_12 (by decide) (by omega) (by omega) (fun c12 => ?_) (fun c12 => ?_)
    · refine g_iload_n dX1_readBoth_55 rfl ?_
      refine g_ireturn dX1_readBoth_56 rfl (by first | rfl | exact nar_bI _) ?_
      exact h M' b hE hT1 hb
    · exact absurd hik (by omega)
  | succ k ih =>
    intro i x b M' hik hE hT1 hb hg
    rw [show anL n t 38 and fac (k + 1) x = if tk n t 38 x.1 = true then anL n t 38 and fac k ((fac (tkS n t 38 x.1)).1, and x.2 (fac (tkS n t 38 x.1)).2) else x from rfl] at hg
    refine g_iload_n dX1_readBoth_8 rfl ?_
    refine g_sipush (nI 150) dX1_readBoth_9 ks_150 ?_
    refine g_icmp_ge_n 55 dX1_readBoth_12 (by decide) (by omega) (by omega) (fun c12 => ?_) (fun c12 => ?_)
    · exact absurd hik (by omega)
    · refine g_aload_n dX1_readBoth_15 rfl ?_
      refine g_getr (j := 1) dX1_readBoth_16 gc1 rfl (by decide) rfl (by decide) fl_C_19 ?_
      refine g_bipush (nI 38) dX1_readBoth_19 kb_38 ?_
      refine g_call1 dX1_readBoth_21 clT_takesIf ml_C_66 gc7 rfl rfl (by decide) (Nat.le_of_ble_eq_true rfl) ?_
      refine ST_takesIf (c := 38) (by omega) hT1 (fun M2 hE2 hT2 => ?_)
      by_cases c : tk n t 38 x.1 = true
      · rw [if_pos c] at hg
        have hbx := hb (tk_ok c)
        rw [c]
        refine g_if_eq_tt 55 dX1_readBoth_24 (by decide) ?_
        refine g_aload_n dX1_readBoth_27 rfl ?_
        refine g_iload_n dX1_readBoth_28 rfl ?_
        refine g_call1 dX1_readBoth_29 clC_readOne ml_C_69 gc1 rfl rfl (by decide) (Nat.le_of_ble_eq_true rfl) ?_
        refine hf M2 _ _ hT2 (fun w hw => by rw [hE2 51 (by decide), hE 51 (by decide)]; exact hV w hw) (fun M3 b2 hE3 hT3 hb2 => ?_)
        have hn : ∀ b3, (okB (fac (tkS n t 38 x.1)).1 = true → b3 = and x.2 (fac (tkS n t 38 x.1)).2) → Go mC_readBoth (d + 3) Q 49 [some (.ref 50), some (.int (nI dep)), some (.int (bI b3)), some (.int (nI i)), some (.int (bI b2))] [] M3 := by
          intro b3 hb3
          first | refine g_incn5_3 dX1_readBoth_49 ki_1 (by decide) rfl ?_ | refine g_incg5_3 (nI 1) dX1_readBoth_49 ki_1 (by decide) rfl ?_
          refine g_goto 8 dX1_readBoth_52 (by decide) ?_
          exact Go_sub [some (.ref 50), some (.int (nI dep)), some (.int (bI b3)), some (.int (nI (i + 1))), none] (by simp [subL]) (ih (i + 1) ((fac (tkS n t 38 x.1)).1, and x.2 (fac (tkS n t 38 x.1)).2) b3 M3 (by omega) (hE.tr (hE2.tr hE3)) hT3 hb3 hg)
        rw [← hbx] at hn
        refine g_ist5_4 dX1_readBoth_32 (by decide) rfl ?_
        refine g_iload_n dX1_readBoth_34 rfl ?_
        refine g_if_eq_b 47 dX1_readBoth_35 (by decide) (fun c35 => ?_) (fun c35 => ?_)
        · refine g_iconst (nI 0) dX1_readBoth_47 ki_0 ?_
          refine g_ist5_2 dX1_readBoth_48 (by decide) rfl ?_
          exact hn false (fun hok => by rw [c35]; simp)
        · skip
          refine g_iload dX1_readBoth_38 rfl ?_
          refine g_if_eq_b 47 dX1_readBoth_40 (by decide) (fun c40 => ?_) (fun c40 => ?_)
          · refine g_iconst (nI 0) dX1_readBoth_47 ki_0 ?_
            refine g_ist5_2 dX1_readBoth_48 (by decide) rfl ?_
            exact hn false (fun hok => by rw [← hb2 hok, c35, c40]; rfl)
          · refine g_iconst (nI 1) dX1_readBoth_43 ki_1 ?_
            refine g_goto 48 dX1_readBoth_44 (by decide) ?_
            refine g_ist5_2 dX1_readBoth_48 (by decide) rfl ?_
            exact hn true (fun hok => by rw [← hb2 hok, c35, c40]; rfl)
      · rw [if_neg c] at hg
        have c := Bool.eq_false_iff.mpr c
        rw [tkS_f c] at hT2
        rw [hg] at h
        rw [c]
        refine g_if_eq_ff 55 dX1_readBoth_24 (by decide) ?_
        refine g_iload_n dX1_readBoth_55 rfl ?_
        refine g_ireturn dX1_readBoth_56 rfl (by first | rfl | exact nar_bI _) ?_
        exact h M2 b (hE.tr hE2) hT2 hb
theorem SC_readEither {d n : Nat} {t : Nat → Nat} {V : Nat → Int32} {dep : Nat} {fac : TS → TS × Bool} (hf : RdC (d + 2) n t V mC_readBoth dep fac) : RdC (d + 3) n t V mC_readEither dep (fun q => anL n t 124 or fac 150 (fac q)) := by
  intro M Q q hT hV h
  dsimp only at h
  refine Call_of (m := mC_readEither) [some (.ref 50), some (.int (nI dep)), none, none, none] rfl (fun G => Nat.le_of_ble_eq_true rfl) (fun G => rfl) ?_
  refine g_aload_n dX1_readEither_0 rfl ?_
  refine g_iload_n dX1_readEither_1 rfl ?_
  refine g_call1 dX1_readEither_2 clC_readBoth ml_C_63 gc1 rfl rfl (by decide) (Nat.le_of_ble_eq_true rfl) ?_
  refine hf M _ q hT hV (fun M1 b hE1 hT1 hb => ?_)
  refine g_ist5_2 dX1_readEither_5 (by decide) rfl ?_
  refine g_iconst (nI 0) dX1_readEither_6 ki_0 ?_
  refine g_ist5_3 dX1_readEither_7 (by decide) rfl ?_
  suffices hloop : ∀ k i x b M', i + k = 150 → EqO [41] M M' → TC n t M' x.1 → (okB x.1 = true → b = x.2) → anL n t 124 or fac 150 (fac q) = anL n t 124 or fac k x → Go mC_readEither (d + 3) Q 8 [some (.ref 50), some (.int (nI dep)), some (.int (bI b)), some (.int (nI i)), none] [] M' by
    exact hloop 150 0 (fac q) b M1 rfl hE1 hT1 hb rfl
  clear hT1 hb hE1 b M1
  intro k
  induction k with
  | zero =>
    intro i x b M' hik hE hT1 hb hg
    rw [hg, anL] at h
    refine g_iload_n dX1_readEither_8 rfl ?_
    refine g_sipush (nI 150) dX1_readEither_9 ks_150 ?_
    refine g_icmp_ge_n 55 dX1_readEither_12 (by decide) (by omega) (by omega) (fun c12 => ?_) (fun c12 => ?_)
    · refine g_iload_n dX1_readEither_55 rfl ?_
      refine g_ireturn dX1_readEither_56 rfl (by first | rfl | exact nar_bI _) ?_
      exact h M' b hE hT1 hb
    · exact absurd hik (by omega)
  | succ k ih =>
    intro i x b M' hik hE hT1 hb hg
    rw [show anL n t 124 or fac (k + 1) x = if tk n t 124 x.1 = true then anL n t 124 or fac k ((fac (tkS n t 124 x.1)).1, or x.2 (fac (tkS n t 124 x.1)).2) else x from rfl] at hg
    refine g_iload_n dX1_readEither_8 rfl ?_
    refine g_sipush (nI 150) dX1_readEither_9 ks_150 ?_
    refine g_icmp_ge_n 55 dX1_readEither_12 (by decide) (by omega) (by omega) (fun c12 => ?_) (fun c12 => ?_)
    · exact absurd hik (by omega)
    · refine g_aload_n dX1_readEither_15 rfl ?_
      refine g_getr (j := 1) dX1_readEither_16 gc1 rfl (by decide) rfl (by decide) fl_C_19 ?_
      refine g_bipush (nI 124) dX1_readEither_19 kb_124 ?_
      refine g_call1 dX1_readEither_21 clT_takesIf ml_C_66 gc7 rfl rfl (by decide) (Nat.le_of_ble_eq_true rfl) ?_
      refine ST_takesIf (c := 124) (by omega) hT1 (fun M2 hE2 hT2 => ?_)
      by_cases c : tk n t 124 x.1 = true
      · rw [if_pos c] at hg
        have hbx := hb (tk_ok c)
        rw [c]
        refine g_if_eq_tt 55 dX1_readEither_24 (by decide) ?_
        refine g_aload_n dX1_readEither_27 rfl ?_
        refine g_iload_n dX1_readEither_28 rfl ?_
        refine g_call1 dX1_readEither_29 clC_readBoth ml_C_63 gc1 rfl rfl (by decide) (Nat.le_of_ble_eq_true rfl) ?_
        refine hf M2 _ _ hT2 (fun w hw => by rw [hE2 51 (by decide), hE 51 (by decide)]; exact hV w hw) (fun M3 b2 hE3 hT3 hb2 => ?_)
        have hn : ∀ b3, (okB (fac (tkS n t 124 x.1)).1 = true → b3 = or x.2 (fac (tkS n t 124 x.1)).2) → Go mC_readEither (d + 3) Q 49 [some (.ref 50), some (.int (nI dep)), some (.int (bI b3)), some (.int (nI i)), some (.int (bI b2))] [] M3 := by
          intro b3 hb3
          first | refine g_incn5_3 dX1_readEither_49 ki_1 (by decide) rfl ?_ | refine g_incg5_3 (nI 1) dX1_readEither_49 ki_1 (by decide) rfl ?_
          refine g_goto 8 dX1_readEither_52 (by decide) ?_
          exact Go_sub [some (.ref 50), some (.int (nI dep)), some (.int (bI b3)), some (.int (nI (i + 1))), none] (by simp [subL]) (ih (i + 1) ((fac (tkS n t 124 x.1)).1, or x.2 (fac (tkS n t 124 x.1)).2) b3 M3 (by omega) (hE.tr (hE2.tr hE3)) hT3 hb3 hg)
        rw [← hbx] at hn
        refine g_ist5_4 dX1_readEither_32 (by decide) rfl ?_
        refine g_iload_n dX1_readEither_34 rfl ?_
        refine g_if_ne_b 43 dX1_readEither_35 (by decide) (fun c35 => ?_) (fun c35 => ?_)
        · refine g_iconst (nI 1) dX1_readEither_43 ki_1 ?_
          refine g_goto 48 dX1_readEither_44 (by decide) ?_
          refine g_ist5_2 dX1_readEither_48 (by decide) rfl ?_
          exact hn true (fun hok => by rw [c35]; simp)
        · skip
          refine g_iload dX1_readEither_38 rfl ?_
          refine g_if_eq_b 47 dX1_readEither_40 (by decide) (fun c40 => ?_) (fun c40 => ?_)
          · refine g_iconst (nI 0) dX1_readEither_47 ki_0 ?_
            refine g_ist5_2 dX1_readEither_48 (by decide) rfl ?_
            exact hn false (fun hok => by rw [← hb2 hok, c35, c40]; rfl)
          · refine g_iconst (nI 1) dX1_readEither_43 ki_1 ?_
            refine g_goto 48 dX1_readEither_44 (by decide) ?_
            refine g_ist5_2 dX1_readEither_48 (by decide) rfl ?_
            exact hn true (fun hok => by rw [← hb2 hok, c35, c40]; rfl)
      · rw [if_neg c] at hg
        have c := Bool.eq_false_iff.mpr c
        rw [tkS_f c] at hT2
        rw [hg] at h
        rw [c]
        refine g_if_eq_ff 55 dX1_readEither_24 (by decide) ?_
        refine g_iload_n dX1_readEither_55 rfl ?_
        refine g_ireturn dX1_readEither_56 rfl (by first | rfl | exact nar_bI _) ?_
        exact h M2 b (hE.tr hE2) hT2 hb
theorem SC_one {n : Nat} {t : Nat → Nat} {V : Nat → Int32} : ∀ r, r ≤ 4 → ∀ d, RdC (d + 3 * r + 8) n t V mC_readOne (4 - r) (faP n t V r) := by
  intro r
  induction r with
  | zero =>
    intro _ d M Q q hT hV h
    refine Call_of (m := mC_readOne) [some (.ref 50), some (.int (nI (4 - 0))), none] rfl (fun G => Nat.le_of_ble_eq_true rfl) (fun G => rfl) ?_
    refine g_iload_n dX1_readOne_0 rfl ?_
    refine g_iconst (nI 4) dX1_readOne_1 ki_4 ?_
    refine g_icmp_ge_n 33 dX1_readOne_2 (by decide) (by omega) (by omega) (fun c2 => ?_) (fun c2 => ?_)
    · refine g_iload_n dX1_readOne_33 rfl ?_
      refine g_iconst (nI 4) dX1_readOne_34 ki_4 ?_
      refine g_icmp_ge_n 69 dX1_readOne_35 (by decide) (by omega) (by omega) (fun c35 => ?_) (fun c35 => ?_)
      · refine g_aload_n dX1_readOne_69 rfl ?_
        refine g_call0 dX1_readOne_70 clC_readComparison ml_C_75 gc1 rfl rfl (by decide) (Nat.le_of_ble_eq_true rfl) ?_
        refine SC_readComparison hT hV (fun M' b hE hT' hb => ?_)
        refine g_ireturn dX1_readOne_73 rfl (by first | rfl | exact nar_bI _) ?_
        exact h M' b hE hT' hb
      · exact absurd c35 (by omega)
    · exact absurd c2 (by omega)
  | succ r ih =>
    intro hr4 d M Q q hT hV h
    have hi := ih (by omega)
    have h1 : RdC (d + 3 * r + 10) n t V mC_readOne (4 - r) (faP n t V r) := by
      have := hi (d + 2)
      rw [show d + 2 + 3 * r + 8 = d + 3 * r + 10 by omega] at this
      exact this
    have h2 : RdC (d + 3 * r + 10) n t V mC_readEither (4 - r) (eiP n t (faP n t V r)) := by
      have := SC_readEither (SC_readBoth (hi d))
      exact this
    rw [show d + 3 * (r + 1) + 8 = d + 3 * r + 10 + 1 by omega]
    generalize hdp : 4 - (r + 1) = dp
    rw [faP] at h
    dsimp only at h
    have hcmp : ∀ M3 ls, ls = [some (.ref 50), some (.int (nI dp)), none] → EqO [41] M M3 → TC n t M3 q → tk n t 33 q = false → tk n t 40 q = false → Go mC_readOne (d + 3 * r + 10 + 1) Q 69 ls [] M3 := by
      intro M3 ls el hE3 hT3 c1 c2
      subst el
      rw [if_neg (by rw [c1]; decide), if_neg (by rw [c2]; decide)] at h
      refine g_aload_n dX1_readOne_69 rfl ?_
      refine g_call0 dX1_readOne_70 clC_readComparison ml_C_75 gc1 rfl rfl (by decide) (Nat.le_of_ble_eq_true rfl) ?_
      refine SC_readComparison (d := d + 3 * r + 3) (V := V) hT3 (fun w hw => by rw [hE3 51 (by decide)]; exact hV w hw) (fun M' b hE hT' hb => ?_)
      refine g_ireturn dX1_readOne_73 rfl (by first | rfl | exact nar_bI _) ?_
      exact h M' b (hE3.tr hE) hT' hb
    have hmid : ∀ M3 ls, ls = [some (.ref 50), some (.int (nI dp)), none] → EqO [41] M M3 → TC n t M3 q → tk n t 33 q = false → Go mC_readOne (d + 3 * r + 10 + 1) Q 33 ls [] M3 := by
      intro M3 ls el hE3 hT3 c1
      subst el
      refine g_iload_n dX1_readOne_33 rfl ?_
      refine g_iconst (nI 4) dX1_readOne_34 ki_4 ?_
      refine g_icmp_ge_n 69 dX1_readOne_35 (by decide) (by omega) (by omega) (fun c35 => ?_) (fun c35 => ?_)
      · exact absurd c35 (by omega)
      · refine g_aload_n dX1_readOne_38 rfl ?_
        refine g_getr (j := 1) dX1_readOne_39 gc1 rfl (by decide) rfl (by decide) fl_C_19 ?_
        refine g_bipush (nI 40) dX1_readOne_42 kb_40 ?_
        refine g_call1 dX1_readOne_44 clT_takesIf ml_C_66 gc7 rfl rfl (by decide) (Nat.le_of_ble_eq_true rfl) ?_
        refine ST_takesIf (c := 40) (by omega) hT3 (fun M4 hE4 hT4 => ?_)
        by_cases c2 : tk n t 40 q = true
        · rw [if_neg (by rw [c1]; decide), if_pos c2] at h
          dsimp only at h
          rw [c2]
          refine g_if_eq_tt 69 dX1_readOne_47 (by decide) ?_
          refine g_aload_n dX1_readOne_50 rfl ?_
          refine g_iload_n dX1_readOne_51 rfl ?_
          refine g_iconst (nI 1) dX1_readOne_52 ki_1 ?_
          first | refine g_iadd_n dX1_readOne_53 ?_ | refine g_iadd dX1_readOne_53 ?_
          refine g_call1 dX1_readOne_54 clC_readEither ml_C_38 gc1 rfl rfl (by decide) (Nat.le_of_ble_eq_true rfl) ?_
          rw [show dp + 1 = 4 - r by omega]
          refine h2 M4 _ _ hT4 (fun w hw => by rw [hE4 51 (by decide), hE3 51 (by decide)]; exact hV w hw) (fun M5 b hE5 hT5 hb => ?_)
          refine g_ist3_2 dX1_readOne_57 (by decide) rfl ?_
          refine g_aload_n dX1_readOne_58 rfl ?_
          refine g_getr (j := 1) dX1_readOne_59 gc1 rfl (by decide) rfl (by decide) fl_C_19 ?_
          refine g_bipush (nI 41) dX1_readOne_62 kb_41 ?_
          refine g_call1 dX1_readOne_64 clT_take ml_C_72 gc7 rfl rfl (by decide) (Nat.le_of_ble_eq_true rfl) ?_
          refine ST_take (c := 41) (by omega) hT5 (fun M6 hE6 hT6 => ?_)
          refine g_iload_n dX1_readOne_67 rfl ?_
          refine g_ireturn dX1_readOne_68 rfl (by first | rfl | exact nar_bI _) ?_
          exact h M6 b (hE3.tr (hE4.tr (hE5.tr hE6))) hT6 (fun hok => hb (ok_mu hok))
        · have c2 := Bool.eq_false_iff.mpr c2
          rw [tkS_f c2] at hT4
          rw [c2]
          refine g_if_eq_ff 69 dX1_readOne_47 (by decide) ?_
          exact hcmp M4 _ rfl (hE3.tr hE4) hT4 c1 c2
    refine Call_of (m := mC_readOne) [some (.ref 50), some (.int (nI dp)), none] rfl (fun G => Nat.le_of_ble_eq_true rfl) (fun G => rfl) ?_
    refine g_iload_n dX1_readOne_0 rfl ?_
    refine g_iconst (nI 4) dX1_readOne_1 ki_4 ?_
    refine g_icmp_ge_n 33 dX1_readOne_2 (by decide) (by omega) (by omega) (fun c2 => ?_) (fun c2 => ?_)
    · exact absurd c2 (by omega)
    · refine g_aload_n dX1_readOne_5 rfl ?_
      refine g_getr (j := 1) dX1_readOne_6 gc1 rfl (by decide) rfl (by decide) fl_C_19 ?_
      refine g_bipush (nI 33) dX1_readOne_9 kb_33 ?_
      refine g_call1 dX1_readOne_11 clT_takesIf ml_C_66 gc7 rfl rfl (by decide) (Nat.le_of_ble_eq_true rfl) ?_
      refine ST_takesIf (c := 33) (by omega) hT (fun M4 hE4 hT4 => ?_)
      by_cases c1 : tk n t 33 q = true
      · rw [if_pos c1] at h
        dsimp only at h
        rw [c1]
        refine g_if_eq_tt 33 dX1_readOne_14 (by decide) ?_
        refine g_aload_n dX1_readOne_17 rfl ?_
        refine g_iload_n dX1_readOne_18 rfl ?_
        refine g_iconst (nI 1) dX1_readOne_19 ki_1 ?_
        first | refine g_iadd_n dX1_readOne_20 ?_ | refine g_iadd dX1_readOne_20 ?_
        refine g_call1 dX1_readOne_21 clC_readOne ml_C_69 gc1 rfl rfl (by decide) (Nat.le_of_ble_eq_true rfl) ?_
        rw [show dp + 1 = 4 - r by omega]
        refine h1 M4 _ _ hT4 (fun w hw => by rw [hE4 51 (by decide)]; exact hV w hw) (fun M5 b hE5 hT5 hb => ?_)
        refine g_if_ne_b 31 dX1_readOne_24 (by decide) (fun c24 => ?_) (fun c24 => ?_)
        · refine g_iconst (nI 0) dX1_readOne_31 ki_0 ?_
          refine g_ireturn dX1_readOne_32 rfl (by first | rfl | exact nar_bI _) ?_
          exact h M5 false (hE4.tr hE5) hT5 (fun hok => by rw [← hb hok, c24]; rfl)
        · refine g_iconst (nI 1) dX1_readOne_27 ki_1 ?_
          refine g_goto 32 dX1_readOne_28 (by decide) ?_
          refine g_ireturn dX1_readOne_32 rfl (by first | rfl | exact nar_bI _) ?_
          exact h M5 true (hE4.tr hE5) hT5 (fun hok => by rw [← hb hok, c24]; rfl)
      · have c1 := Bool.eq_false_iff.mpr c1
        rw [tkS_f c1] at hT4
        rw [c1]
        refine g_if_eq_ff 33 dX1_readOne_14 (by decide) ?_
        exact hmid M4 _ rfl hE4 hT4 c1
/-- the whole text, from its first byte, for a duty's values -/
def coP (n : Nat) (t : Nat → Nat) (V : Nat → Int32) : TS × Bool := eiP n t (faP n t V 4) (.inl 0)
def stP (n : Nat) (t : Nat → Nat) : TS := enS n (coP n t (fun _ => 0)).1
theorem coP_st (n : Nat) (t : Nat → Nat) (V : Nat → Int32) : enS n (coP n t V).1 = stP n t := by
  unfold stP coP
  rw [eiP_st (faP_st V (fun _ => 0) 4)]
theorem SC_text {d : Nat} {n : Nat} {t : Nat → Nat} {M : Mm} {Q : Po} {V : Nat → Int32} (hT : TC n t M (.inl 0)) (hV : ∀ w, w < 6 → M 51 w = V w) (h : ∀ M' b, EqO [41] M M' → TC n t M' (coP n t V).1 → (okB (coP n t V).1 = true → b = (coP n t V).2) → Q M' (some (.int (bI b)))) : Call (d + 22) mC_readEither [.ref 50, .int (nI 0)] M Q :=
  SC_readEither (SC_readBoth (SC_one 4 (Nat.le_refl 4) d)) M Q (.inl 0) hT hV h
/-! pick, openAll in the class -/
def vwF (a k q x w : Nat) : Nat := [a, k, if q = 8 then 10 else q, if q = 8 then 0 else 1, if q = 8 then 0 else x, a / 7].getD w 0
def vwC (S : BS) (e : Nat) : Nat → Int32 := fun w => nI (vwF (S 10 e 0) (S 11 e 0) (S 12 e 0) (dlv S (S 12 e 0) e) w)
theorem dlv_8 {S : BS} (hW : WF S) (e : Nat) : dlv S 8 e = 0 := by
  have := hW.np
  unfold dlv
  rw [if_neg (by omega)]
theorem SB_dislikeM {d : Nat} {M : Mm} {S : BS} {Q : Po} (hB : BK M S) (h : Q M (some (.int (nI 0)))) : Call (d + 2) mB_dislikeOf [.ref 1, .int (-1), .int (-1)] M Q := by
  refine Call_of (m := mB_dislikeOf) [some (.ref 1), some (.int (-1)), some (.int (-1))] rfl (fun G => Nat.le_of_ble_eq_true rfl) (fun G => rfl) ?_
  refine g_aload_n dX0_dislikeOf_0 rfl ?_
  refine g_iload_n dX0_dislikeOf_1 rfl ?_
  refine g_call1 dX0_dislikeOf_2 clB_isOne ml_B_64 gc0 rfl rfl (by decide) (Nat.le_of_ble_eq_true rfl) ?_
  refine SB_isOne hB _ ?_
  rw [inR_m1]
  refine g_if_eq_ff 30 dX0_dislikeOf_5 (by decide) ?_
  refine g_iconst (nI 0) dX0_dislikeOf_30 ki_0 ?_
  refine g_ireturn dX0_dislikeOf_31 rfl (by first | rfl | exact nar_bI _) ?_
  exact h
theorem SC_noteValues {d : Nat} {M : Mm} {S : BS} {Q : Po} {e : Nat} (hB : BK M S) (he : e < S 1 0 0) (h : ∀ M', EqO [51] M M' → (∀ w, w < 6 → M' 51 w = vwC S e w) → Q M' none) : Call (d + 3) mC_noteValues [.ref 50, .int (nI e)] M Q := by
  have hw := hB.wf.nd
  have hdk := hB.wf.dk (d := e) (by omega)
  have hB' : ∀ M', EqO [51] M M' → BK M' S := fun M' hE => hB.eqO hE (by decide)
  have hfin : ∀ M' : Mm, EqO [51] M M' → M' 51 0 = nI (S 10 e 0) → M' 51 1 = nI (S 11 e 0) → M' 51 2 = nI (if S 12 e 0 = 8 then 10 else S 12 e 0) → M' 51 3 = nI (if S 12 e 0 = 8 then 0 else 1) → M' 51 4 = nI (dlv S (S 12 e 0) e) → M' 51 5 = nI (S 10 e 0 / 7) → Q M' none := by
    intro M' hE v0 v1 v2 v3 v4 v5
    refine h M' hE (fun w hw => ?_)
    unfold vwC vwF
    obtain rfl | rfl | rfl | rfl | rfl | rfl : w = 0 ∨ w = 1 ∨ w = 2 ∨ w = 3 ∨ w = 4 ∨ w = 5 := by omega
    · exact v0
    · exact v1
    · exact v2
    · exact v3
    · rw [v4]
      by_cases z : S 12 e 0 = 8
      · rw [z, dlv_8 hB.wf]; rfl
      · show _ = nI (if S 12 e 0 = 8 then 0 else dlv S (S 12 e 0) e)
        rw [if_neg z]
    · exact v5
  clear h
  refine Call_of (m := mC_noteValues) [some (.ref 50), some (.int (nI e)), none] rfl (fun G => Nat.le_of_ble_eq_true rfl) (fun G => rfl) ?_
  refine g_aload_n dX1_noteValues_0 rfl ?_
  refine g_getr (j := 0) dX1_noteValues_1 gc1 rfl (by decide) rfl (by decide) fl_C_15 ?_
  refine g_iload_n dX1_noteValues_4 rfl ?_
  refine g_call1 dX1_noteValues_5 clB_holderOf ml_C_49 gc0 rfl rfl (by decide) (Nat.le_of_ble_eq_true rfl) ?_
  refine SB_holderOf hB he ?_
  refine g_ist3_2 dX1_noteValues_8 (by decide) rfl ?_
  refine g_aload_n dX1_noteValues_9 rfl ?_
  refine g_getr (j := 2) dX1_noteValues_10 gc1 rfl (by decide) rfl (by decide) fl_C_11 ?_
  refine g_iconst (nI 0) dX1_noteValues_13 ki_0 ?_
  refine g_aload_n dX1_noteValues_14 rfl ?_
  refine g_getr (j := 0) dX1_noteValues_15 gc1 rfl (by decide) rfl (by decide) fl_C_15 ?_
  refine g_iload_n dX1_noteValues_18 rfl ?_
  refine g_call1 dX1_noteValues_19 clB_dayOf ml_C_53 gc0 rfl rfl (by decide) (Nat.le_of_ble_eq_true rfl) ?_
  refine SB_dayOf hB he ?_
  refine g_iast_n dX1_noteValues_22 (by first | rfl | assumption) (by first | decide | assumption) (by omega) (by omega) ?_
  refine g_aload_n dX1_noteValues_23 rfl ?_
  refine g_getr (j := 2) dX1_noteValues_24 gc1 rfl (by decide) rfl (by decide) fl_C_11 ?_
  refine g_iconst (nI 1) dX1_noteValues_27 ki_1 ?_
  refine g_aload_n dX1_noteValues_28 rfl ?_
  refine g_getr (j := 0) dX1_noteValues_29 gc1 rfl (by decide) rfl (by decide) fl_C_15 ?_
  refine g_iload_n dX1_noteValues_32 rfl ?_
  refine g_call1 dX1_noteValues_33 clB_kindOf ml_C_56 gc0 rfl rfl (by decide) (Nat.le_of_ble_eq_true rfl) ?_
  refine SB_kindOf (hB' _ (EqO.set (by decide))) he ?_
  have hrest : ∀ M4 : Mm, EqO [51] M M4 → M4 51 0 = nI (S 10 e 0) → M4 51 1 = nI (S 11 e 0) → M4 51 2 = nI (if S 12 e 0 = 8 then 10 else S 12 e 0) → M4 51 3 = nI (if S 12 e 0 = 8 then 0 else 1) → Go mC_noteValues (d + 3) Q 70 [some (.ref 50), some (.int (nI e)), some (.int (hv (S 12 e 0)))] [] M4 := by
    intro M4 hE4 v0 v1 v2 v3
    refine g_aload_n dX1_noteValues_70 rfl ?_
    refine g_getr (j := 2) dX1_noteValues_71 gc1 rfl (by decide) rfl (by decide) fl_C_11 ?_
    refine g_iconst (nI 4) dX1_noteValues_74 ki_4 ?_
    refine g_aload_n dX1_noteValues_75 rfl ?_
    refine g_getr (j := 0) dX1_noteValues_76 gc1 rfl (by decide) rfl (by decide) fl_C_15 ?_
    refine g_iload_n dX1_noteValues_79 rfl ?_
    refine g_iload_n dX1_noteValues_80 rfl ?_
    refine g_call2 dX1_noteValues_81 clB_dislikeOf ml_C_59 gc0 rfl rfl (by decide) (Nat.le_of_ble_eq_true rfl) ?_
    refine SB_dislikeOf (hB' M4 hE4) hdk.2.2 he ?_
    refine g_iast_n dX1_noteValues_84 (by first | rfl | assumption) (by first | decide | assumption) (by omega) (by omega) ?_
    refine g_aload_n dX1_noteValues_85 rfl ?_
    refine g_getr (j := 2) dX1_noteValues_86 gc1 rfl (by decide) rfl (by decide) fl_C_11 ?_
    refine g_iconst (nI 5) dX1_noteValues_89 ki_5 ?_
    refine g_aload_n dX1_noteValues_90 rfl ?_
    refine g_getr (j := 0) dX1_noteValues_91 gc1 rfl (by decide) rfl (by decide) fl_C_15 ?_
    refine g_iload_n dX1_noteValues_94 rfl ?_
    refine g_call1 dX1_noteValues_95 clB_dayOf ml_C_53 gc0 rfl rfl (by decide) (Nat.le_of_ble_eq_true rfl) ?_
    refine SB_dayOf (hB' _ (hE4.tr (EqO.set (by decide)))) he ?_
    refine g_bipush (nI 7) dX1_noteValues_98 kb_7 ?_
    refine g_idiv_n dX1_noteValues_100 (by omega) (by omega) (by omega) ?_
    refine g_iast_n dX1_noteValues_101 (by first | rfl | assumption) (by first | decide | assumption) (by omega) (by omega) ?_
    refine g_return dX1_noteValues_102 rfl ?_
    refine hfin _ (hE4.tr ((EqO.set (by decide)).tr (EqO.set (by decide)))) ?_ ?_ ?_ ?_ ?_ ?_
    · rw [mset_off (by omega), mset_off (by omega)]; exact v0
    · rw [mset_off (by omega), mset_off (by omega)]; exact v1
    · rw [mset_off (by omega), mset_off (by omega)]; exact v2
    · rw [mset_off (by omega), mset_off (by omega)]; exact v3
    · rw [mset_off (by omega), mset_at]
    · rw [mset_at]
  refine g_iast_n dX1_noteValues_36 (by first | rfl | assumption) (by first | decide | assumption) (by omega) (by omega) ?_
  refine g_aload_n dX1_noteValues_37 rfl ?_
  refine g_getr (j := 2) dX1_noteValues_38 gc1 rfl (by decide) rfl (by decide) fl_C_11 ?_
  refine g_iconst (nI 2) dX1_noteValues_41 ki_2 ?_
  refine g_iload_n dX1_noteValues_42 rfl ?_
  refine g_iconst ((-1)) dX1_noteValues_43 ki_m1 ?_
  refine g_icmp_ne 52 dX1_noteValues_44 (by decide) (fun c44 => ?_) (fun c44 => ?_)
  · rw [hv_open _ hdk.2.2] at c44
    refine g_iload_n dX1_noteValues_52 rfl ?_
    refine g_iast_n dX1_noteValues_53 (by first | rfl | assumption) (by first | decide | assumption) (by omega) (by omega) ?_
    refine g_aload_n dX1_noteValues_54 rfl ?_
    refine g_getr (j := 2) dX1_noteValues_55 gc1 rfl (by decide) rfl (by decide) fl_C_11 ?_
    refine g_iconst (nI 3) dX1_noteValues_58 ki_3 ?_
    refine g_iload_n dX1_noteValues_59 rfl ?_
    refine g_iconst ((-1)) dX1_noteValues_60 ki_m1 ?_
    refine g_icmp_ne 68 dX1_noteValues_61 (by decide) (fun c61 => ?_) (fun c61 => ?_)
    · rw [hv_open _ hdk.2.2] at c61
      refine g_iconst (nI 1) dX1_noteValues_68 ki_1 ?_
      refine g_iast_n dX1_noteValues_69 (by first | rfl | assumption) (by first | decide | assumption) (by omega) (by omega) ?_
      rw [hv_p (p := S 12 e 0) (by omega)]
      rw [hv_p (p := S 12 e 0) (by omega)] at hrest
      refine hrest _ (((EqO.set (by decide)).tr (EqO.set (by decide))).tr ((EqO.set (by decide)).tr (EqO.set (by decide)))) ?_ ?_ ?_ ?_
      · rw [mset_off (by omega), mset_off (by omega), mset_off (by omega), mset_at]
      · rw [mset_off (by omega), mset_off (by omega), mset_at]
      · rw [mset_off (by omega), mset_at, if_neg c44]
      · rw [mset_at, if_neg c44]
    · rw [hv_open _ hdk.2.2] at c61
      exact absurd c61 c44
  · rw [hv_open _ hdk.2.2] at c44
    refine g_bipush (nI 10) dX1_noteValues_47 kb_10 ?_
    refine g_goto 53 dX1_noteValues_49 (by decide) ?_
    refine g_iast_n dX1_noteValues_53 (by first | rfl | assumption) (by first | decide | assumption) (by omega) (by omega) ?_
    refine g_aload_n dX1_noteValues_54 rfl ?_
    refine g_getr (j := 2) dX1_noteValues_55 gc1 rfl (by decide) rfl (by decide) fl_C_11 ?_
    refine g_iconst (nI 3) dX1_noteValues_58 ki_3 ?_
    refine g_iload_n dX1_noteValues_59 rfl ?_
    refine g_iconst ((-1)) dX1_noteValues_60 ki_m1 ?_
    refine g_icmp_ne 68 dX1_noteValues_61 (by decide) (fun c61 => ?_) (fun c61 => ?_)
    · rw [hv_open _ hdk.2.2] at c61
      exact absurd c44 c61
    · refine g_iconst (nI 0) dX1_noteValues_64 ki_0 ?_
      refine g_goto 69 dX1_noteValues_65 (by decide) ?_
      refine g_iast_n dX1_noteValues_69 (by first | rfl | assumption) (by first | decide | assumption) (by omega) (by omega) ?_
      refine hrest _ (((EqO.set (by decide)).tr (EqO.set (by decide))).tr ((EqO.set (by decide)).tr (EqO.set (by decide)))) ?_ ?_ ?_ ?_
      · rw [mset_off (by omega), mset_off (by omega), mset_off (by omega), mset_at]
      · rw [mset_off (by omega), mset_off (by omega), mset_at]
      · rw [mset_off (by omega), mset_at, if_pos c44]
      · rw [mset_at, if_pos c44]
theorem SC_noteNone {d : Nat} {M : Mm} {S : BS} {Q : Po} (hB : BK M S) (h : ∀ M', EqO [51] M M' → Q M' none) : Call (d + 3) mC_noteValues [.ref 50, .int (-1)] M Q := by
  have hB' : ∀ M', EqO [51] M M' → BK M' S := fun M' hE => hB.eqO hE (by decide)
  refine Call_of (m := mC_noteValues) [some (.ref 50), some (.int (-1)), none] rfl (fun G => Nat.le_of_ble_eq_true rfl) (fun G => rfl) ?_
  refine g_aload_n dX1_noteValues_0 rfl ?_
  refine g_getr (j := 0) dX1_noteValues_1 gc1 rfl (by decide) rfl (by decide) fl_C_15 ?_
  refine g_iload_n dX1_noteValues_4 rfl ?_
  refine g_call1 dX1_noteValues_5 clB_holderOf ml_C_49 gc0 rfl rfl (by decide) (Nat.le_of_ble_eq_true rfl) ?_
  refine SB_holderOfF hB (inR_m1 _) ?_
  refine g_ist3_2 dX1_noteValues_8 (by decide) rfl ?_
  refine g_aload_n dX1_noteValues_9 rfl ?_
  refine g_getr (j := 2) dX1_noteValues_10 gc1 rfl (by decide) rfl (by decide) fl_C_11 ?_
  refine g_iconst (nI 0) dX1_noteValues_13 ki_0 ?_
  refine g_aload_n dX1_noteValues_14 rfl ?_
  refine g_getr (j := 0) dX1_noteValues_15 gc1 rfl (by decide) rfl (by decide) fl_C_15 ?_
  refine g_iload_n dX1_noteValues_18 rfl ?_
  refine g_call1 dX1_noteValues_19 clB_dayOf ml_C_53 gc0 rfl rfl (by decide) (Nat.le_of_ble_eq_true rfl) ?_
  refine SB_dayOfF hB (inR_m1 _) ?_
  refine g_iast_n dX1_noteValues_22 (by first | rfl | assumption) (by first | decide | assumption) (by omega) (by omega) ?_
  refine g_aload_n dX1_noteValues_23 rfl ?_
  refine g_getr (j := 2) dX1_noteValues_24 gc1 rfl (by decide) rfl (by decide) fl_C_11 ?_
  refine g_iconst (nI 1) dX1_noteValues_27 ki_1 ?_
  refine g_aload_n dX1_noteValues_28 rfl ?_
  refine g_getr (j := 0) dX1_noteValues_29 gc1 rfl (by decide) rfl (by decide) fl_C_15 ?_
  refine g_iload_n dX1_noteValues_32 rfl ?_
  refine g_call1 dX1_noteValues_33 clB_kindOf ml_C_56 gc0 rfl rfl (by decide) (Nat.le_of_ble_eq_true rfl) ?_
  refine SB_kindOfF (hB' _ (EqO.set (by decide))) (inR_m1 _) ?_
  refine g_iast_n dX1_noteValues_36 (by first | rfl | assumption) (by first | decide | assumption) (by omega) (by omega) ?_
  refine g_aload_n dX1_noteValues_37 rfl ?_
  refine g_getr (j := 2) dX1_noteValues_38 gc1 rfl (by decide) rfl (by decide) fl_C_11 ?_
  refine g_iconst (nI 2) dX1_noteValues_41 ki_2 ?_
  refine g_iload_n dX1_noteValues_42 rfl ?_
  refine g_iconst ((-1)) dX1_noteValues_43 ki_m1 ?_
  refine g_icmp_ne 52 dX1_noteValues_44 (by decide) (fun c44 => ?_) (fun c44 => ?_)
  · exact absurd rfl c44
  · refine g_bipush (nI 10) dX1_noteValues_47 kb_10 ?_
    refine g_goto 53 dX1_noteValues_49 (by decide) ?_
    refine g_iast_n dX1_noteValues_53 (by first | rfl | assumption) (by first | decide | assumption) (by omega) (by omega) ?_
    refine g_aload_n dX1_noteValues_54 rfl ?_
    refine g_getr (j := 2) dX1_noteValues_55 gc1 rfl (by decide) rfl (by decide) fl_C_11 ?_
    refine g_iconst (nI 3) dX1_noteValues_58 ki_3 ?_
    refine g_iload_n dX1_noteValues_59 rfl ?_
    refine g_iconst ((-1)) dX1_noteValues_60 ki_m1 ?_
    refine g_icmp_ne 68 dX1_noteValues_61 (by decide) (fun c61 => ?_) (fun c61 => ?_)
    · exact absurd rfl c61
    · refine g_iconst (nI 0) dX1_noteValues_64 ki_0 ?_
      refine g_goto 69 dX1_noteValues_65 (by decide) ?_
      refine g_iast_n dX1_noteValues_69 (by first | rfl | assumption) (by first | decide | assumption) (by omega) (by omega) ?_
      refine g_aload_n dX1_noteValues_70 rfl ?_
      refine g_getr (j := 2) dX1_noteValues_71 gc1 rfl (by decide) rfl (by decide) fl_C_11 ?_
      refine g_iconst (nI 4) dX1_noteValues_74 ki_4 ?_
      refine g_aload_n dX1_noteValues_75 rfl ?_
      refine g_getr (j := 0) dX1_noteValues_76 gc1 rfl (by decide) rfl (by decide) fl_C_15 ?_
      refine g_iload_n dX1_noteValues_79 rfl ?_
      refine g_iload_n dX1_noteValues_80 rfl ?_
      refine g_call2 dX1_noteValues_81 clB_dislikeOf ml_C_59 gc0 rfl rfl (by decide) (Nat.le_of_ble_eq_true rfl) ?_
      have hE4 : EqO [51] M (mset (mset (mset (mset M 51 0 (-1)) 51 1 (-1)) 51 2 (nI 10)) 51 3 (nI 0)) := ((EqO.set (by decide)).tr (EqO.set (by decide))).tr ((EqO.set (by decide)).tr (EqO.set (by decide)))
      refine SB_dislikeM (hB' _ hE4) ?_
      refine g_iast_n dX1_noteValues_84 (by first | rfl | assumption) (by first | decide | assumption) (by omega) (by omega) ?_
      refine g_aload_n dX1_noteValues_85 rfl ?_
      refine g_getr (j := 2) dX1_noteValues_86 gc1 rfl (by decide) rfl (by decide) fl_C_11 ?_
      refine g_iconst (nI 5) dX1_noteValues_89 ki_5 ?_
      refine g_aload_n dX1_noteValues_90 rfl ?_
      refine g_getr (j := 0) dX1_noteValues_91 gc1 rfl (by decide) rfl (by decide) fl_C_15 ?_
      refine g_iload_n dX1_noteValues_94 rfl ?_
      refine g_call1 dX1_noteValues_95 clB_dayOf ml_C_53 gc0 rfl rfl (by decide) (Nat.le_of_ble_eq_true rfl) ?_
      refine SB_dayOfF (hB' _ (hE4.tr (EqO.set (by decide)))) (inR_m1 _) ?_
      refine g_bipush (nI 7) dX1_noteValues_98 kb_7 ?_
      refine g_idiv dX1_noteValues_100 (by decide) ?_
      refine g_iast_n dX1_noteValues_101 (by first | rfl | assumption) (by first | decide | assumption) (by omega) (by omega) ?_
      refine g_return dX1_noteValues_102 rfl ?_
      exact h _ (hE4.tr ((EqO.set (by decide)).tr (EqO.set (by decide))))
def pkB (c : Nat → Bool) : Nat → Int32
  | 0 => nI 0
  | k + 1 => if c k = true then pkB c k ||| (nI 1 <<< (nI k &&& 31)) else pkB c k
def cdB (S : BS) (n : Nat) (t : Nat → Nat) (e : Nat) : Bool := (coP n t (vwC S e)).2
theorem SC_pickDuties {d : Nat} {n : Nat} {t : Nat → Nat} {M : Mm} {S : BS} {Q : Po} (hB : BK M S) (hT : TPc n t M) (h : ∀ M' v, EqO [41, 51] M M' → TC n t M' (stP n t) → (okB (stP n t) = true → v = pkB (cdB S n t) (S 1 0 0)) → Q M' (some (.int v))) : Call (d + 23) mC_pickDuties [.ref 50] M Q := by
  have hw := hB.wf.nd
  have hTP : ∀ M', EqO [41, 51] M M' → M' 41 1 = M 41 1 → TPc n t M' := fun M' hE h1 => ⟨hT.1, hT.2.1, by rw [h1]; exact hT.2.2.1, fun i hi => by rw [hE 42 (by decide)]; exact hT.2.2.2 i hi⟩
  have hBB : ∀ M', EqO [41, 51] M M' → BK M' S := fun M' hE => hB.eqO hE (by decide)
  refine Call_of (m := mC_pickDuties) [some (.ref 50), none, none, none] rfl (fun G => Nat.le_of_ble_eq_true rfl) (fun G => rfl) ?_
  refine g_iconst (nI 0) dX1_pickDuties_0 ki_0 ?_
  refine g_ist4_1 dX1_pickDuties_1 (by decide) rfl ?_
  refine g_iconst ((-1)) dX1_pickDuties_2 ki_m1 ?_
  refine g_ist4_2 dX1_pickDuties_3 (by decide) rfl ?_
  have hloop : okB (stP n t) = true → ∀ i, i ≤ S 1 0 0 → ∀ M', EqO [41, 51] M M' → TC n t M' (stP n t) → Go mC_pickDuties (d + 23) Q 4 [some (.ref 50), some (.int (pkB (cdB S n t) i)), some (.int (nI i)), none] [] M' := by
    intro hok
    refine loop_up (P := fun i => ∀ M', EqO [41, 51] M M' → TC n t M' (stP n t) → Go mC_pickDuties (d + 23) Q 4 [some (.ref 50), some (.int (pkB (cdB S n t) i)), some (.int (nI i)), none] [] M') (S 1 0 0) ?_
    intro i hi ih M' hE hTs
    have hB' := hBB M' hE
    refine g_iload_n dX1_pickDuties_4 rfl ?_
    refine g_aload_n dX1_pickDuties_5 rfl ?_
    refine g_getr (j := 0) dX1_pickDuties_6 gc1 rfl (by decide) rfl (by decide) fl_C_15 ?_
    refine g_geti (j := 1) dX1_pickDuties_9 gc0 rfl (by decide) rfl (by decide) fl_C_23 ?_
    try simp (disch := omega) only [hB'.nd]
    refine g_icmp_ge_n 78 dX1_pickDuties_12 (by decide) (by omega) (by omega) (fun c12 => ?_) (fun c12 => ?_)
    · refine g_iload_n dX1_pickDuties_78 rfl ?_
      refine g_ireturn dX1_pickDuties_79 rfl (by first | rfl | exact nar_bI _) ?_
      refine h M' _ hE hTs (fun _ => ?_)
      rw [show i = S 1 0 0 by omega]
    · refine g_iload_n dX1_pickDuties_15 rfl ?_
      refine g_bipush (nI 24) dX1_pickDuties_16 kb_24 ?_
      refine g_icmp_ge_n 78 dX1_pickDuties_18 (by decide) (by omega) (by omega) (fun c18 => ?_) (fun c18 => ?_)
      · exact absurd hw (by omega)
      · refine g_aload_n dX1_pickDuties_21 rfl ?_
        refine g_iload_n dX1_pickDuties_22 rfl ?_
        refine g_call1 dX1_pickDuties_23 clC_noteValues ml_C_29 gc1 rfl rfl (by decide) (Nat.le_of_ble_eq_true rfl) ?_
        refine SC_noteValues hB' (by omega) (fun M1 hE1 hv1 => ?_)
        refine g_aload_n dX1_pickDuties_26 rfl ?_
        refine g_getr (j := 1) dX1_pickDuties_27 gc1 rfl (by decide) rfl (by decide) fl_C_19 ?_
        refine g_call0 dX1_pickDuties_30 clT_start ml_C_33 gc7 rfl rfl (by decide) (Nat.le_of_ble_eq_true rfl) ?_
        refine ST_start (hTP M1 (hE.tr (hE1.sub (by decide))) (by rw [hE1 41 (by decide), hTs.1.2.2.1, hT.2.2.1])) (fun M2 hE2 hT2 => ?_)
        refine g_aload_n dX1_pickDuties_33 rfl ?_
        refine g_iconst (nI 0) dX1_pickDuties_34 ki_0 ?_
        refine g_call1 dX1_pickDuties_35 clC_readEither ml_C_38 gc1 rfl rfl (by decide) (Nat.le_of_ble_eq_true rfl) ?_
        refine SC_text (V := vwC S i) hT2 (fun w hw => by rw [hE2 51 (by decide)]; exact hv1 w hw) (fun M3 b hE3 hT3 hb => ?_)
        refine g_ist4_3 dX1_pickDuties_38 (by decide) rfl ?_
        refine g_aload_n dX1_pickDuties_39 rfl ?_
        refine g_getr (j := 1) dX1_pickDuties_40 gc1 rfl (by decide) rfl (by decide) fl_C_19 ?_
        refine g_call0 dX1_pickDuties_43 clT_end ml_C_42 gc7 rfl rfl (by decide) (Nat.le_of_ble_eq_true rfl) ?_
        refine ST_end hT3 (fun M4 hE4 hT4 => ?_)
        rw [coP_st] at hT4
        refine g_aload_n dX1_pickDuties_46 rfl ?_
        refine g_getr (j := 1) dX1_pickDuties_47 gc1 rfl (by decide) rfl (by decide) fl_C_19 ?_
        refine g_call0 dX1_pickDuties_50 clT_isFaulty ml_C_45 gc7 rfl rfl (by decide) (Nat.le_of_ble_eq_true rfl) ?_
        refine ST_isFaulty hT4 ?_
        rw [hok]
        have hE5 : EqO [41, 51] M M4 := (hE.tr (hE1.sub (by decide))).tr ((hE2.sub (by decide)).tr ((hE3.sub (by decide)).tr (hE4.sub (by decide))))
        have hbb : b = cdB S n t i := hb (ok_en (by rw [coP_st]; exact hok)).1
        have ih := ih (by omega) M4 hE5 hT4
        rw [pkB] at ih
        refine g_if_eq_ff 58 dX1_pickDuties_53 (by decide) ?_
        refine g_iload_n dX1_pickDuties_58 rfl ?_
        refine g_if_eq_b 72 dX1_pickDuties_59 (by decide) (fun c59 => ?_) (fun c59 => ?_)
        · rw [if_neg (by rw [← hbb, c59]; decide)] at ih
          first | refine g_incn4_2 dX1_pickDuties_72 ki_1 (by decide) rfl ?_ | refine g_incg4_2 (nI 1) dX1_pickDuties_72 ki_1 (by decide) rfl ?_
          refine g_goto 4 dX1_pickDuties_75 (by decide) ?_
          exact Go_sub [some (.ref 50), some (.int (pkB (cdB S n t) i)), some (.int (nI (i + 1))), none] (by simp [subL]) ih
        · rw [if_pos (by rw [← hbb]; exact c59)] at ih
          refine g_iload_n dX1_pickDuties_62 rfl ?_
          refine g_if_lt_n 72 dX1_pickDuties_63 (by decide) (by omega) ?_
          refine g_iload_n dX1_pickDuties_66 rfl ?_
          refine g_iconst (nI 1) dX1_pickDuties_67 ki_1 ?_
          refine g_iload_n dX1_pickDuties_68 rfl ?_
          refine g_ishl dX1_pickDuties_69 ?_
          refine g_ior dX1_pickDuties_70 ?_
          refine g_ist4_1 dX1_pickDuties_71 (by decide) rfl ?_
          first | refine g_incn4_2 dX1_pickDuties_72 ki_1 (by decide) rfl ?_ | refine g_incg4_2 (nI 1) dX1_pickDuties_72 ki_1 (by decide) rfl ?_
          refine g_goto 4 dX1_pickDuties_75 (by decide) ?_
          exact Go_sub [some (.ref 50), some (.int (pkB (cdB S n t) i ||| (nI 1 <<< (nI i &&& 31)))), some (.int (nI (i + 1))), none] (by simp [subL]) ih
  refine g_iload_n dX1_pickDuties_4 rfl ?_
  refine g_aload_n dX1_pickDuties_5 rfl ?_
  refine g_getr (j := 0) dX1_pickDuties_6 gc1 rfl (by decide) rfl (by decide) fl_C_15 ?_
  refine g_geti (j := 1) dX1_pickDuties_9 gc0 rfl (by decide) rfl (by decide) fl_C_23 ?_
  try simp (disch := omega) only [hB'.nd]
  refine g_icmp_ge 78 dX1_pickDuties_12 (by decide) (fun c12 => ?_) (fun c12 => ?_)
  · have hm : (-1 : Int32).toInt = -1 := by decide
    rw [hB.nd, Int32.le_iff_toInt_le, nI_toInt (by omega), hm] at c12
    omega
  · skip
    refine g_iload_n dX1_pickDuties_15 rfl ?_
    refine g_bipush (nI 24) dX1_pickDuties_16 kb_24 ?_
    refine g_icmp_ge 78 dX1_pickDuties_18 (by decide) (fun c18 => ?_) (fun c18 => ?_)
    · exact absurd c18 (by decide)
    · refine g_aload_n dX1_pickDuties_21 rfl ?_
      refine g_iload_n dX1_pickDuties_22 rfl ?_
      refine g_call1 dX1_pickDuties_23 clC_noteValues ml_C_29 gc1 rfl rfl (by decide) (Nat.le_of_ble_eq_true rfl) ?_
      refine SC_noteNone hB (fun M1 hE1 => ?_)
      refine g_aload_n dX1_pickDuties_26 rfl ?_
      refine g_getr (j := 1) dX1_pickDuties_27 gc1 rfl (by decide) rfl (by decide) fl_C_19 ?_
      refine g_call0 dX1_pickDuties_30 clT_start ml_C_33 gc7 rfl rfl (by decide) (Nat.le_of_ble_eq_true rfl) ?_
      refine ST_start (hTP M1 (hE1.sub (by decide)) (by rw [hE1 41 (by decide)])) (fun M2 hE2 hT2 => ?_)
      refine g_aload_n dX1_pickDuties_33 rfl ?_
      refine g_iconst (nI 0) dX1_pickDuties_34 ki_0 ?_
      refine g_call1 dX1_pickDuties_35 clC_readEither ml_C_38 gc1 rfl rfl (by decide) (Nat.le_of_ble_eq_true rfl) ?_
      refine SC_text (V := M2 51) hT2 (fun w hw => rfl) (fun M3 b hE3 hT3 hb => ?_)
      refine g_ist4_3 dX1_pickDuties_38 (by decide) rfl ?_
      refine g_aload_n dX1_pickDuties_39 rfl ?_
      refine g_getr (j := 1) dX1_pickDuties_40 gc1 rfl (by decide) rfl (by decide) fl_C_19 ?_
      refine g_call0 dX1_pickDuties_43 clT_end ml_C_42 gc7 rfl rfl (by decide) (Nat.le_of_ble_eq_true rfl) ?_
      refine ST_end hT3 (fun M4 hE4 hT4 => ?_)
      rw [coP_st] at hT4
      refine g_aload_n dX1_pickDuties_46 rfl ?_
      refine g_getr (j := 1) dX1_pickDuties_47 gc1 rfl (by decide) rfl (by decide) fl_C_19 ?_
      refine g_call0 dX1_pickDuties_50 clT_isFaulty ml_C_45 gc7 rfl rfl (by decide) (Nat.le_of_ble_eq_true rfl) ?_
      refine ST_isFaulty hT4 ?_
      have hE5 : EqO [41, 51] M M4 := (hE1.sub (by decide)).tr ((hE2.sub (by decide)).tr ((hE3.sub (by decide)).tr (hE4.sub (by decide))))
      by_cases hok : okB (stP n t) = true
      · rw [hok]
        have hl := hloop hok 0 (Nat.zero_le _) M4 hE5 hT4
        refine g_if_eq_ff 58 dX1_pickDuties_53 (by decide) ?_
        refine g_iload_n dX1_pickDuties_58 rfl ?_
        refine g_if_eq_b 72 dX1_pickDuties_59 (by decide) (fun c59 => ?_) (fun c59 => ?_)
        · first | refine g_incn4_2 dX1_pickDuties_72 ki_1 (by decide) rfl ?_ | refine g_incg4_2 (nI 1) dX1_pickDuties_72 ki_1 (by decide) rfl ?_
          refine g_goto 4 dX1_pickDuties_75 (by decide) ?_
          exact Go_sub [some (.ref 50), some (.int (nI 0)), some (.int (nI 0)), none] (by simp [subL]; decide) hl
        · skip
          refine g_iload_n dX1_pickDuties_62 rfl ?_
          refine g_if_lt 72 dX1_pickDuties_63 (by decide) (fun c63 => ?_) (fun c63 => ?_)
          · first | refine g_incn4_2 dX1_pickDuties_72 ki_1 (by decide) rfl ?_ | refine g_incg4_2 (nI 1) dX1_pickDuties_72 ki_1 (by decide) rfl ?_
            refine g_goto 4 dX1_pickDuties_75 (by decide) ?_
            exact Go_sub [some (.ref 50), some (.int (nI 0)), some (.int (nI 0)), none] (by simp [subL]; decide) hl
          · exact absurd (show (-1 : Int32) < 0 from by decide) c63
      · have hok := Bool.eq_false_iff.mpr hok
        rw [hok]
        refine g_if_eq_tt 58 dX1_pickDuties_53 (by decide) ?_
        refine g_iconst (nI 0) dX1_pickDuties_56 ki_0 ?_
        refine g_ireturn dX1_pickDuties_57 rfl (by first | rfl | exact nar_bI _) ?_
        exact h M4 _ hE5 hT4 (fun z => by rw [hok] at z; cases z)
/-! pick, openAll in the class -/
theorem hoS_skip {S : BS} {f : Nat → Nat} {k : Nat} (h : f k = S 12 k 0) : hoS S f (k + 1) = hoS S f k := by
  funext a b c
  unfold hoS
  by_cases z : a = 12 ∧ c = 0 ∧ b < k
  · rw [if_pos z, if_pos (by omega)]
  · rw [if_neg z]
    by_cases y : a = 12 ∧ c = 0 ∧ b < k + 1
    · rw [if_pos y]
      obtain ⟨rfl, rfl, y3⟩ := y
      obtain rfl : b = k := by omega
      exact h
    · rw [if_neg y]
theorem hoS_at {S : BS} {f : Nat → Nat} {k b : Nat} (h : k ≤ b) : hoS S f k 12 b 0 = S 12 b 0 := by
  unfold hoS
  rw [if_neg (by omega)]
def btB (v : Int32) (d : Nat) : Bool := !(((v >>> (nI d &&& 31)) &&& nI 1) == nI 0)
def oaG (S : BS) (v : Int32) (d : Nat) : Nat := if btB v d = true then 8 else S 12 d 0
def oaC (S : BS) (v : Int32) (d : Nat) : Bool := btB v d && !(S 12 d 0 == 8)
def f_pick (S : BS) (n : Nat) (t : Nat → Nat) : Int32 × BS × Bool := (clV (pkB (cdB S n t) (S 1 0 0)) (stP n t), S, false)
def f_openAll (S : BS) (n : Nat) (t : Nat → Nat) : Int32 × BS × Bool := (clV (nI (cnt (oaC S (pkB (cdB S n t) (S 1 0 0))) (S 1 0 0))) (stP n t), if okB (stP n t) = true then hoS S (oaG S (pkB (cdB S n t) (S 1 0 0))) (S 1 0 0) else S, false)
theorem SF_pick (M : Mm) (S : BS) (n : Nat) (t : Nat → Nat) (Q : Po) (hB : BK M S) (hH : HM S) (hT : TPc n t M) (h : ∀ M', FxC M M' → BK M' (f_pick S n t).2.1 → M' 41 1 = (if (f_pick S n t).2.2 = true then nI n else nI 0) → Q M' (some (.int (f_pick S n t).1))) : Call 60 mF_pick [.ref 0] M Q := by
  unfold f_pick at h
  dsimp only at h
  refine Call_of (m := mF_pick) [some (.ref 0), none] rfl (fun G => Nat.le_of_ble_eq_true rfl) (fun G => rfl) ?_
  refine g_aload_n dX9_pick_0 rfl ?_
  refine g_getr (j := 8) dX9_pick_1 gc9 rfl (by decide) rfl (by decide) fl_F_65 ?_
  refine g_call0 dX9_pick_4 clC_pickDuties ml_F_272 gc1 rfl rfl (by decide) (Nat.le_of_ble_eq_true rfl) ?_
  refine SC_pickDuties hB hT (fun M1 v hE1 hT1 hv => ?_)
  have hB1 : BK M1 S := hB.eqO hE1 (by decide)
  generalize stP n t = r at h hT1 hv
  refine g_ist2_1 dX9_pick_7 (by decide) rfl ?_
  refine g_aload_n dX9_pick_8 rfl ?_
  refine g_getr (j := 6) dX9_pick_9 gc9 rfl (by decide) rfl (by decide) fl_F_49 ?_
  refine g_call0 dX9_pick_12 clT_isFaulty ml_F_145 gc7 rfl rfl (by decide) (Nat.le_of_ble_eq_true rfl) ?_
  refine ST_isFaulty hT1 ?_
  by_cases hok : okB r = true
  · rw [hok]
    refine g_if_eq_ff 23 dX9_pick_15 (by decide) ?_
    refine g_aload_n dX9_pick_23 rfl ?_
    refine g_getr (j := 6) dX9_pick_24 gc9 rfl (by decide) rfl (by decide) fl_F_49 ?_
    refine g_call0 dX9_pick_27 clT_wipe ml_F_158 gc7 rfl rfl (by decide) (Nat.le_of_ble_eq_true rfl) ?_
    refine ST_wipe ?_
    refine g_pop dX9_pick_30 rfl ?_
    refine g_iload_n dX9_pick_31 rfl ?_
    refine g_ireturn dX9_pick_32 rfl (by first | rfl | exact nar_bI _) ?_
    rw [hv hok]
    cases r with
    | inl a =>
      refine h (mset M1 41 1 (nI 0)) (FxC.of (L := [41, 51]) (hE1.tr (EqO.set (by decide))) (by decide)) (hB1.off (fun k k1 k2 => mset_ne (by omega))) ?_
      rw [mset_at]; rfl
    | inr f => cases hok
  · have hok := Bool.eq_false_iff.mpr hok
    rw [hok]
    cases r with
    | inl a => cases hok
    | inr f =>
      refine g_if_eq_tt 23 dX9_pick_15 (by decide) ?_
      refine g_aload_n dX9_pick_18 rfl ?_
      refine g_call0 dX9_pick_19 clF_faultAnswer ml_F_149 gc9 rfl rfl (by decide) (Nat.le_of_ble_eq_true rfl) ?_
      refine SF_faultAnswer hT1 ?_
      refine g_ireturn dX9_pick_22 rfl (by first | rfl | exact nar_bI _) ?_
      refine h (mset M1 41 1 (nI 0)) (FxC.of (L := [41, 51]) (hE1.tr (EqO.set (by decide))) (by decide)) (hB1.off (fun k k1 k2 => mset_ne (by omega))) ?_
      rw [mset_at]; rfl
theorem SF_openAll (M : Mm) (S : BS) (n : Nat) (t : Nat → Nat) (Q : Po) (hB : BK M S) (hH : HM S) (hT : TPc n t M) (h : ∀ M', FxC M M' → BK M' (f_openAll S n t).2.1 → M' 41 1 = (if (f_openAll S n t).2.2 = true then nI n else nI 0) → Q M' (some (.int (f_openAll S n t).1))) : Call 60 mF_openAll [.ref 0] M Q := by
  have hw := hB.wf.nd
  unfold f_openAll at h
  dsimp only at h
  refine Call_of (m := mF_openAll) [some (.ref 0), none, none, none] rfl (fun G => Nat.le_of_ble_eq_true rfl) (fun G => rfl) ?_
  refine g_aload_n dX9_openAll_0 rfl ?_
  refine g_getr (j := 8) dX9_openAll_1 gc9 rfl (by decide) rfl (by decide) fl_F_65 ?_
  refine g_call0 dX9_openAll_4 clC_pickDuties ml_F_272 gc1 rfl rfl (by decide) (Nat.le_of_ble_eq_true rfl) ?_
  refine SC_pickDuties hB hT (fun M1 v hE1 hT1 hv => ?_)
  have hB1 : BK M1 S := hB.eqO hE1 (by decide)
  generalize stP n t = r at h hT1 hv
  refine g_ist4_1 dX9_openAll_7 (by decide) rfl ?_
  refine g_aload_n dX9_openAll_8 rfl ?_
  refine g_getr (j := 6) dX9_openAll_9 gc9 rfl (by decide) rfl (by decide) fl_F_49 ?_
  refine g_call0 dX9_openAll_12 clT_isFaulty ml_F_145 gc7 rfl rfl (by decide) (Nat.le_of_ble_eq_true rfl) ?_
  refine ST_isFaulty hT1 ?_
  by_cases hok : okB r = true
  · rw [if_pos hok, ← hv hok] at h
    rw [hok]
    refine g_if_eq_ff 23 dX9_openAll_15 (by decide) ?_
    refine g_aload_n dX9_openAll_23 rfl ?_
    refine g_getr (j := 6) dX9_openAll_24 gc9 rfl (by decide) rfl (by decide) fl_F_49 ?_
    refine g_call0 dX9_openAll_27 clT_wipe ml_F_158 gc7 rfl rfl (by decide) (Nat.le_of_ble_eq_true rfl) ?_
    refine ST_wipe ?_
    refine g_pop dX9_openAll_30 rfl ?_
    refine g_iconst (nI 0) dX9_openAll_31 ki_0 ?_
    refine g_ist4_2 dX9_openAll_32 (by decide) rfl ?_
    refine g_iconst (nI 0) dX9_openAll_33 ki_0 ?_
    refine g_ist4_3 dX9_openAll_34 (by decide) rfl ?_
    cases r with
    | inr f => cases hok
    | inl a =>
      refine loop_up (P := fun i => ∀ M', EqO [2] (mset M1 41 1 (nI 0)) M' → BK M' (hoS S (oaG S v) i) → Go mF_openAll 60 Q 35 [some (.ref 0), some (.int v), some (.int (nI (cnt (oaC S v) i))), some (.int (nI i))] [] M') (S 1 0 0) ?_ 0 (Nat.zero_le _) _ EqO.rf (by rw [hoS_0]; exact hB1.off (fun k k1 k2 => mset_ne (by omega)))
      intro i hi ih M' hE hB'
      have hdk := hB.wf.dk (d := i)
      have hcl := cnt_le (oaC S v) i
      have e1 : ∀ k, hoS S (oaG S v) k 1 0 0 = S 1 0 0 := fun k => by rw [hoS_oth (by decide)]
      refine g_iload_n dX9_openAll_35 rfl ?_
      refine g_aload_n dX9_openAll_36 rfl ?_
      refine g_getr (j := 0) dX9_openAll_37 gc9 rfl (by decide) rfl (by decide) fl_F_13 ?_
      refine g_geti (j := 1) dX9_openAll_40 gc0 rfl (by decide) rfl (by decide) fl_F_164 ?_
      try simp (disch := omega) only [hB'.nd, e1]
      refine g_icmp_ge_n 87 dX9_openAll_43 (by decide) (by omega) (by omega) (fun c43 => ?_) (fun c43 => ?_)
      · refine g_iload_n dX9_openAll_87 rfl ?_
        refine g_ireturn dX9_openAll_88 rfl (by first | rfl | exact nar_bI _) ?_
        rw [show i = S 1 0 0 by omega] at hB' ⊢
        refine h M' (FxC.of (L := [2, 41, 51]) (((hE1.sub (by decide)).tr ((EqO.set (by decide)).tr (hE.sub (by decide))))) (by decide)) hB' ?_
        rw [hE 41 (by decide), mset_at]
        rfl
      · have hdk := hdk (by omega)
        have hskip : ∀ i2, i2 = i → oaG S v i = S 12 i 0 → oaC S v i = false → Go mF_openAll 60 Q 81 [some (.ref 0), some (.int v), some (.int (nI (cnt (oaC S v) i2))), some (.int (nI i))] [] M' := by
          intro i2 e hg hc
          subst e
          first | refine g_incn4_3 dX9_openAll_81 ki_1 (by decide) rfl ?_ | refine g_incg4_3 (nI 1) dX9_openAll_81 ki_1 (by decide) rfl ?_
          refine g_goto 35 dX9_openAll_84 (by decide) ?_
          have ih := ih (by omega) M' hE (by rw [hoS_skip hg]; exact hB')
          rw [cnt_f hc] at ih
          exact ih
        refine g_iload_n dX9_openAll_46 rfl ?_
        refine g_iload_n dX9_openAll_47 rfl ?_
        refine g_ishr dX9_openAll_48 ?_
        refine g_iconst (nI 1) dX9_openAll_49 ki_1 ?_
        refine g_iand dX9_openAll_50 ?_
        refine g_if_eq 81 dX9_openAll_51 (by decide) (fun c51 => ?_) (fun c51 => ?_)
        · refine hskip i rfl ?_ ?_
          · unfold oaG btB; rw [if_neg (by rw [c51]; decide)]
          · unfold oaC btB; rw [c51]; rfl
        · have hbt : btB v i = true := by
            unfold btB
            rw [Bool.not_eq_true', beq_eq_false_iff_ne]
            exact c51
          refine g_aload_n dX9_openAll_54 rfl ?_
          refine g_getr (j := 0) dX9_openAll_55 gc9 rfl (by decide) rfl (by decide) fl_F_13 ?_
          refine g_iload_n dX9_openAll_58 rfl ?_
          refine g_call1 dX9_openAll_59 clB_holderOf ml_F_185 gc0 rfl rfl (by decide) (Nat.le_of_ble_eq_true rfl) ?_
          refine SB_holderOf hB' (by rw [e1]; omega) ?_
          rw [hoS_at (Nat.le_refl i)]
          refine g_iconst ((-1)) dX9_openAll_62 ki_m1 ?_
          refine g_icmp_ne 69 dX9_openAll_63 (by decide) (fun c63 => ?_) (fun c63 => ?_)
          · rw [hv_open _ hdk.2.2] at c63
            refine g_aload_n dX9_openAll_69 rfl ?_
            refine g_getr (j := 0) dX9_openAll_70 gc9 rfl (by decide) rfl (by decide) fl_F_13 ?_
            refine g_iload_n dX9_openAll_73 rfl ?_
            refine g_iconst ((-1)) dX9_openAll_74 ki_m1 ?_
            refine g_call2 dX9_openAll_75 clB_putHolder ml_F_209 gc0 rfl rfl (by decide) (Nat.le_of_ble_eq_true rfl) ?_
            refine SB_putHolder hB' (by rw [e1]; omega) ?_
            first | refine g_incn4_2 dX9_openAll_78 ki_1 (by decide) rfl ?_ | refine g_incg4_2 (nI 1) dX9_openAll_78 ki_1 (by decide) rfl ?_
            first | refine g_incn4_3 dX9_openAll_81 ki_1 (by decide) rfl ?_ | refine g_incg4_3 (nI 1) dX9_openAll_81 ki_1 (by decide) rfl ?_
            refine g_goto 35 dX9_openAll_84 (by decide) ?_
            have ih := ih (by omega) (mset M' 2 i (-1)) (hE.tr (EqO.set (by decide))) (by
              rw [hoS_step, show oaG S v i = 8 from if_pos hbt]
              exact hB'.hol1 (by rw [e1]; omega) (by omega))
            rw [cnt_t (f := oaC S v) (by unfold oaC; rw [hbt]; simp [c63])] at ih
            exact ih
          · rw [hv_open _ hdk.2.2] at c63
            refine g_goto 81 dX9_openAll_66 (by decide) ?_
            refine hskip i rfl ?_ ?_
            · unfold oaG; rw [if_pos hbt, c63]
            · unfold oaC; rw [c63]; simp
  · have hok := Bool.eq_false_iff.mpr hok
    rw [if_neg (by rw [hok]; decide)] at h
    rw [hok]
    cases r with
    | inl a => cases hok
    | inr f =>
      refine g_if_eq_tt 23 dX9_openAll_15 (by decide) ?_
      refine g_aload_n dX9_openAll_18 rfl ?_
      refine g_call0 dX9_openAll_19 clF_faultAnswer ml_F_149 gc9 rfl rfl (by decide) (Nat.le_of_ble_eq_true rfl) ?_
      refine SF_faultAnswer hT1 ?_
      refine g_ireturn dX9_openAll_22 rfl (by first | rfl | exact nar_bI _) ?_
      refine h (mset M1 41 1 (nI 0)) (FxC.of (L := [41, 51]) (hE1.tr (EqO.set (by decide))) (by decide)) (hB1.off (fun k k1 k2 => mset_ne (by omega))) ?_
      rw [mset_at]; rfl
/-! CONDITIONS in the reference: words, comparisons -/
def VX (dd A K u X : Nat) (M : Mm) : Prop := dd < 24 ∧ A ≤ 365 ∧ K ≤ 3 ∧ u ≤ 8 ∧ X ≤ 9 ∧ M 58 (251 + dd) = nI A ∧ M 58 (275 + dd) = nI K ∧ M 58 (299 + dd) = hv u ∧ (u < 8 → M 58 (323 + 24 * u + dd) = nI X) ∧ M 57 25 = nI dd
theorem VX.of {dd A K u X : Nat} {M M' : Mm} (h : VX dd A K u X M) (h1 : M' 58 = M 58) (h2 : M' 57 25 = M 57 25) : VX dd A K u X M' := by
  unfold VX at h ⊢
  rw [h1, h2]
  exact h
theorem VX.eqT {dd A K u X : Nat} {M M' : Mm} (h : VX dd A K u X M) (hE : EqT M M') : VX dd A K u X M' := h.of (hE.row (by decide)) (hE 57 25 (by omega))
theorem SM_wordEnd {d : Nat} {n : Nat} {t : Nat → Nat} {M : Mm} {Q : Po} {a : Nat} (hT : TPm n t M) (ha : a ≤ n) (e20 : M 57 20 = nI a) (h : Q M (some (.int (nI (wdG n t 150 a))))) : Call (d + 2) mM_wordEnd [.ref 57] M Q := by
  obtain ⟨hn, ht, e19, e69⟩ := hT
  refine Call_of (m := mM_wordEnd) [some (.ref 57), none] rfl (fun G => Nat.le_of_ble_eq_true rfl) (fun G => rfl) ?_
  refine g_aload_n dX10_wordEnd_0 rfl ?_
  refine g_geti (j := 20) dX10_wordEnd_1 gc10 rfl (by decide) rfl (by decide) fl_M_251 ?_
  try simp (disch := omega) only [e20]
  refine g_ist2_1 dX10_wordEnd_4 (by decide) rfl ?_
  suffices hloop : ∀ k i, a + i ≤ n → i + k = 150 → wdG n t 150 a = wdG n t k (a + i) → Go mM_wordEnd (d + 2) Q 5 [some (.ref 57), some (.int (nI (a + i)))] [] M by
    exact hloop 150 0 ha rfl rfl
  intro k
  induction k with
  | zero =>
    intro i hai hik hg
    rw [wdG] at hg
    refine g_iload_n dX10_wordEnd_5 rfl ?_
    refine g_aload_n dX10_wordEnd_6 rfl ?_
    refine g_geti (j := 19) dX10_wordEnd_7 gc10 rfl (by decide) rfl (by decide) fl_M_245 ?_
    try simp (disch := omega) only [e19]
    refine g_icmp_ge_n 38 dX10_wordEnd_10 (by decide) (by omega) (by omega) (fun c10 => ?_) (fun c10 => ?_)
    · rw [hg] at h
      refine g_iload_n dX10_wordEnd_38 rfl ?_
      refine g_ireturn dX10_wordEnd_39 rfl (by first | rfl | exact nar_bI _) ?_
      exact h
    · exact absurd hik (by omega)
  | succ k ih =>
    intro i hai hik hg
    refine g_iload_n dX10_wordEnd_5 rfl ?_
    refine g_aload_n dX10_wordEnd_6 rfl ?_
    refine g_geti (j := 19) dX10_wordEnd_7 gc10 rfl (by decide) rfl (by decide) fl_M_245 ?_
    try simp (disch := omega) only [e19, e69]
    refine g_icmp_ge_n 38 dX10_wordEnd_10 (by decide) (by omega) (by omega) (fun c10 => ?_) (fun c10 => ?_)
    · have hg := hg.trans (show wdG n t (k + 1) (a + i) = a + i by rw [wdG, if_neg (by unfold tb ltr; rw [if_neg (by omega)]; decide)])
      rw [hg] at h
      refine g_iload_n dX10_wordEnd_38 rfl ?_
      refine g_ireturn dX10_wordEnd_39 rfl (by first | rfl | exact nar_bI _) ?_
      exact h
    · have etb : tb n t (a + i) = t (a + i) := if_pos (by omega)
      have := ht (a + i) (by omega)
      refine g_aload_n dX10_wordEnd_13 rfl ?_
      refine g_getr (j := 18) dX10_wordEnd_14 gc10 rfl (by decide) rfl (by decide) fl_M_44 ?_
      refine g_iload_n dX10_wordEnd_17 rfl ?_
      refine g_iald_n dX10_wordEnd_18 (by first | rfl | assumption) (by first | decide | assumption) (by omega) (by omega) ?_
      try simp (disch := omega) only [e19, e69]
      refine g_i2l dX10_wordEnd_19 ?_
      refine g_ldc2w (97) dX10_wordEnd_20 kl_M_291 ?_
      refine g_ldc2w (122) dX10_wordEnd_23 kl_M_293 ?_
      refine g_calls3 dX10_wordEnd_26 clM_in ml_M_68 (Nat.le_of_ble_eq_true rfl) ?_
      refine SM_in _ _ _ ?_
      rw [show (97 : Int64) = (nI 97).toInt64 from by decide, show (122 : Int64) = (nI 122).toInt64 from by decide, inJ_N (by omega) (by omega) (by omega)]
      refine g_if_eq_b 38 dX10_wordEnd_29 (by decide) (fun c29 => ?_) (fun c29 => ?_)
      · have hg := hg.trans (show wdG n t (k + 1) (a + i) = a + i by rw [wdG, etb, if_neg (by unfold ltr; rw [c29]; decide)])
        rw [hg] at h
        refine g_iload_n dX10_wordEnd_38 rfl ?_
        refine g_ireturn dX10_wordEnd_39 rfl (by first | rfl | exact nar_bI _) ?_
        exact h
      · have hg := hg.trans (show wdG n t (k + 1) (a + i) = wdG n t k (a + i + 1) by rw [wdG, etb, if_pos (by unfold ltr; exact c29)])
        first | refine g_incn2_1 dX10_wordEnd_32 ki_1 (by decide) rfl ?_ | refine g_incg2_1 (nI 1) dX10_wordEnd_32 ki_1 (by decide) rfl ?_
        refine g_goto 5 dX10_wordEnd_35 (by decide) ?_
        exact ih (i + 1) (by omega) (by omega) hg
def wX (n : Nat) (t : Nat → Nat) (a e c0 c1 c2 c3 : Nat) : Bool := decide (e - a = (if c3 = 0 then 3 else 4) ∧ tb n t a = c0 ∧ tb n t (a + 1) = c1 ∧ tb n t (a + 2) = c2 ∧ (c3 = 0 ∨ tb n t (a + 3) = c3))
theorem SM_isWord {d : Nat} {n : Nat} {t : Nat → Nat} {M : Mm} {Q : Po} {a e c0 c1 c2 c3 : Nat} (hT : TPm n t M) (ha : a ≤ e) (he : e ≤ n) (e20 : M 57 20 = nI a) (hc : c0 < 200 ∧ c1 < 200 ∧ c2 < 200 ∧ c3 < 200) (h : Q M (some (.int (bI (wX n t a e c0 c1 c2 c3))))) : Call (d + 1) mM_isWord [.ref 57, .int (nI e), .int (nI c0), .int (nI c1), .int (nI c2), .int (nI c3)] M Q := by
  obtain ⟨hn, ht, e19, e69⟩ := hT
  have hbad : wX n t a e c0 c1 c2 c3 = false → ∀ z, Go mM_isWord (d + 1) Q 92 [some (.ref 57), some (.int (nI e)), some (.int (nI c0)), some (.int (nI c1)), some (.int (nI c2)), some (.int (nI c3)), some (.int (nI z))] [] M := by
    intro hf z
    refine g_iconst (nI 0) dX10_isWord_92 ki_0 ?_
    refine g_ireturn dX10_isWord_93 rfl (by first | rfl | exact nar_bI _) ?_
    exact qb_f h hf
  have hmain : ∀ z, z = (if c3 = 0 then 3 else 4) → Go mM_isWord (d + 1) Q 12 [some (.ref 57), some (.int (nI e)), some (.int (nI c0)), some (.int (nI c1)), some (.int (nI c2)), some (.int (nI c3)), some (.int (nI z))] [] M := by
    intro z hz
    have hz4 : z = 3 ∧ c3 = 0 ∨ z = 4 ∧ c3 ≠ 0 := by
      split at hz
      · exact Or.inl ⟨hz, by assumption⟩
      · exact Or.inr ⟨hz, by assumption⟩
    have hz3 : 3 ≤ z := by omega
    unfold wX at h hbad
    rw [← hz] at h hbad
    have hb : ∀ j, a + j < n → tb n t (a + j) = t (a + j) := fun j hj => if_pos hj
    have hb0 : a < n → tb n t a = t a := fun hj => if_pos hj
    have hl : ∀ j, j < n → t j ≤ 127 := fun j hj => (ht j hj).2
    refine g_iload_n dX10_isWord_12 rfl ?_
    refine g_aload_n dX10_isWord_13 rfl ?_
    refine g_geti (j := 20) dX10_isWord_14 gc10 rfl (by decide) rfl (by decide) fl_M_251 ?_
    try simp (disch := omega) only [e20, e69]
    first | refine g_isub_n dX10_isWord_17 (by omega) ?_ | refine g_isub dX10_isWord_17 ?_
    refine g_iload dX10_isWord_18 rfl ?_
    refine g_icmp_ne_n 92 dX10_isWord_20 (by decide) (by omega) (by omega) (fun c20 => ?_) (fun c20 => ?_)
    · exact hbad (decide_eq_false (fun q => c20 q.1)) z
    · have x0 := hb0 (by omega)
      have y0 := hl a (by omega)
      rw [x0] at h hbad
      refine g_aload_n dX10_isWord_23 rfl ?_
      refine g_getr (j := 18) dX10_isWord_24 gc10 rfl (by decide) rfl (by decide) fl_M_44 ?_
      refine g_aload_n dX10_isWord_27 rfl ?_
      refine g_geti (j := 20) dX10_isWord_28 gc10 rfl (by decide) rfl (by decide) fl_M_251 ?_
      try simp (disch := omega) only [e20, e69]
      refine g_iald_n dX10_isWord_31 (by first | rfl | assumption) (by first | decide | assumption) (by omega) (by omega) ?_
      try simp (disch := omega) only [e20, e69]
      refine g_iload_n dX10_isWord_32 rfl ?_
      refine g_icmp_ne_n 92 dX10_isWord_33 (by decide) (by omega) (by omega) (fun c33 => ?_) (fun c33 => ?_)
      · exact hbad (decide_eq_false (fun q => c33 q.2.1)) z
      · have x1 := hb 1 (by omega)
        have y1 := hl (a + 1) (by omega)
        rw [x1] at h hbad
        refine g_aload_n dX10_isWord_36 rfl ?_
        refine g_getr (j := 18) dX10_isWord_37 gc10 rfl (by decide) rfl (by decide) fl_M_44 ?_
        refine g_aload_n dX10_isWord_40 rfl ?_
        refine g_geti (j := 20) dX10_isWord_41 gc10 rfl (by decide) rfl (by decide) fl_M_251 ?_
        try simp (disch := omega) only [e20, e69]
        refine g_iconst (nI 1) dX10_isWord_44 ki_1 ?_
        first | refine g_iadd_n dX10_isWord_45 ?_ | refine g_iadd dX10_isWord_45 ?_
        refine g_iald_n dX10_isWord_46 (by first | rfl | assumption) (by first | decide | assumption) (by omega) (by omega) ?_
        try simp (disch := omega) only [e20, e69]
        refine g_iload_n dX10_isWord_47 rfl ?_
        refine g_icmp_ne_n 92 dX10_isWord_48 (by decide) (by omega) (by omega) (fun c48 => ?_) (fun c48 => ?_)
        · exact hbad (decide_eq_false (fun q => c48 q.2.2.1)) z
        · have x2 := hb 2 (by omega)
          have y2 := hl (a + 2) (by omega)
          rw [x2] at h hbad
          refine g_aload_n dX10_isWord_51 rfl ?_
          refine g_getr (j := 18) dX10_isWord_52 gc10 rfl (by decide) rfl (by decide) fl_M_44 ?_
          refine g_aload_n dX10_isWord_55 rfl ?_
          refine g_geti (j := 20) dX10_isWord_56 gc10 rfl (by decide) rfl (by decide) fl_M_251 ?_
          try simp (disch := omega) only [e20, e69]
          refine g_iconst (nI 2) dX10_isWord_59 ki_2 ?_
          first | refine g_iadd_n dX10_isWord_60 ?_ | refine g_iadd dX10_isWord_60 ?_
          refine g_iald_n dX10_isWord_61 (by first | rfl | assumption) (by first | decide | assumption) (by omega) (by omega) ?_
          try simp (disch := omega) only [e20, e69]
          refine g_iload dX10_isWord_62 rfl ?_
          refine g_icmp_ne_n 92 dX10_isWord_64 (by decide) (by omega) (by omega) (fun c64 => ?_) (fun c64 => ?_)
          · exact hbad (decide_eq_false (fun q => c64 q.2.2.2.1)) z
          · have hok : (c3 = 0 ∨ tb n t (a + 3) = c3) → Go mM_isWord (d + 1) Q 88 [some (.ref 57), some (.int (nI e)), some (.int (nI c0)), some (.int (nI c1)), some (.int (nI c2)), some (.int (nI c3)), some (.int (nI z))] [] M := by
              intro h3
              refine g_iconst (nI 1) dX10_isWord_88 ki_1 ?_
              refine g_goto 93 dX10_isWord_89 (by decide) ?_
              refine g_ireturn dX10_isWord_93 rfl (by first | rfl | exact nar_bI _) ?_
              exact qb_t h (decide_eq_true ⟨c20, c33, c48, c64, h3⟩)
            refine g_iload dX10_isWord_67 rfl ?_
            refine g_if_eq_n 88 dX10_isWord_69 (by decide) (by omega) (fun c69 => ?_) (fun c69 => ?_)
            · exact hok (Or.inl c69)
            · have x3 := hb 3 (by omega)
              have y3 := hl (a + 3) (by omega)
              rw [x3] at hok hbad
              refine g_aload_n dX10_isWord_72 rfl ?_
              refine g_getr (j := 18) dX10_isWord_73 gc10 rfl (by decide) rfl (by decide) fl_M_44 ?_
              refine g_aload_n dX10_isWord_76 rfl ?_
              refine g_geti (j := 20) dX10_isWord_77 gc10 rfl (by decide) rfl (by decide) fl_M_251 ?_
              try simp (disch := omega) only [e20, e69]
              refine g_iconst (nI 3) dX10_isWord_80 ki_3 ?_
              first | refine g_iadd_n dX10_isWord_81 ?_ | refine g_iadd dX10_isWord_81 ?_
              refine g_iald_n dX10_isWord_82 (by first | rfl | assumption) (by first | decide | assumption) (by omega) (by omega) ?_
              try simp (disch := omega) only [e20, e69]
              refine g_iload dX10_isWord_83 rfl ?_
              refine g_icmp_ne_n 92 dX10_isWord_85 (by decide) (by omega) (by omega) (fun c85 => ?_) (fun c85 => ?_)
              · exact hbad (decide_eq_false (fun q => by omega)) z
              · exact hok (Or.inr c85)
  refine Call_of (m := mM_isWord) [some (.ref 57), some (.int (nI e)), some (.int (nI c0)), some (.int (nI c1)), some (.int (nI c2)), some (.int (nI c3)), none] rfl (fun G => Nat.le_of_ble_eq_true rfl) (fun G => rfl) ?_
  refine g_iload dX10_isWord_0 rfl ?_
  refine g_if_eq_n 9 dX10_isWord_2 (by decide) (by omega) (fun c2 => ?_) (fun c2 => ?_)
  · refine g_iconst (nI 3) dX10_isWord_9 ki_3 ?_
    refine g_ist7_6 dX10_isWord_10 (by decide) rfl ?_
    exact hmain 3 (by rw [if_pos c2])
  · refine g_iconst (nI 4) dX10_isWord_5 ki_4 ?_
    refine g_goto 10 dX10_isWord_6 (by decide) ?_
    refine g_ist7_6 dX10_isWord_10 (by decide) rfl ?_
    exact hmain 4 (by rw [if_neg c2])
/-! CONDITIONS in the reference: the words' values -/
def dX (n : Nat) (t : Nat → Nat) (a e : Nat) : Bool := decide (e - a = 7 ∧ tb n t a = 100 ∧ tb n t (a + 1) = 105 ∧ tb n t (a + 2) = 115 ∧ tb n t (a + 3) = 108 ∧ tb n t (a + 4) = 105 ∧ tb n t (a + 5) = 107 ∧ tb n t (a + 6) = 101)
theorem SM_isDislike {d : Nat} {n : Nat} {t : Nat → Nat} {M : Mm} {Q : Po} {a e : Nat} (hT : TPm n t M) (ha : a ≤ e) (he : e ≤ n) (e20 : M 57 20 = nI a) (h : Q M (some (.int (bI (dX n t a e))))) : Call (d + 1) mM_isDislike [.ref 57, .int (nI e)] M Q := by
  obtain ⟨hn, ht, e19, e69⟩ := hT
  have hbad : dX n t a e = false → Go mM_isDislike (d + 1) Q 126 [some (.ref 57), some (.int (nI e))] [] M := by
    intro hf
    refine g_iconst (nI 0) dX10_isDislike_126 ki_0 ?_
    refine g_ireturn dX10_isDislike_127 rfl (by first | rfl | exact nar_bI _) ?_
    exact qb_f h hf
  unfold dX at h hbad
  have hb : ∀ j, a + j < n → tb n t (a + j) = t (a + j) := fun j hj => if_pos hj
  have hb0 : a < n → tb n t a = t a := fun hj => if_pos hj
  have hl : ∀ j, j < n → t j ≤ 127 := fun j hj => (ht j hj).2
  refine Call_of (m := mM_isDislike) [some (.ref 57), some (.int (nI e))] rfl (fun G => Nat.le_of_ble_eq_true rfl) (fun G => rfl) ?_
  refine g_iload_n dX10_isDislike_0 rfl ?_
  refine g_aload_n dX10_isDislike_1 rfl ?_
  refine g_geti (j := 20) dX10_isDislike_2 gc10 rfl (by decide) rfl (by decide) fl_M_251 ?_
  try simp (disch := omega) only [e20, e69]
  first | refine g_isub_n dX10_isDislike_5 (by omega) ?_ | refine g_isub dX10_isDislike_5 ?_
  refine g_bipush (nI 7) dX10_isDislike_6 kb_7 ?_
  refine g_icmp_ne_n 126 dX10_isDislike_8 (by decide) (by omega) (by omega) (fun c8 => ?_) (fun c8 => ?_)
  · exact hbad (decide_eq_false (fun q => c8 q.1))
  · have x0 := hb0 (by omega)
    have y0 := hl a (by omega)
    rw [x0] at h hbad
    refine g_aload_n dX10_isDislike_11 rfl ?_
    refine g_getr (j := 18) dX10_isDislike_12 gc10 rfl (by decide) rfl (by decide) fl_M_44 ?_
    refine g_aload_n dX10_isDislike_15 rfl ?_
    refine g_geti (j := 20) dX10_isDislike_16 gc10 rfl (by decide) rfl (by decide) fl_M_251 ?_
    try simp (disch := omega) only [e20, e69]
    refine g_iald_n dX10_isDislike_19 (by first | rfl | assumption) (by first | decide | assumption) (by omega) (by omega) ?_
    try simp (disch := omega) only [e20, e69]
    refine g_bipush (nI 100) dX10_isDislike_20 kb_100 ?_
    refine g_icmp_ne_n 126 dX10_isDislike_22 (by decide) (by omega) (by omega) (fun c22 => ?_) (fun c22 => ?_)
    · exact hbad (decide_eq_false (fun q => c22 q.2.1))
    · have x1 := hb 1 (by omega)
      have y1 := hl (a + 1) (by omega)
      rw [x1] at h hbad
      refine g_aload_n dX10_isDislike_25 rfl ?_
      refine g_getr (j := 18) dX10_isDislike_26 gc10 rfl (by decide) rfl (by decide) fl_M_44 ?_
      refine g_aload_n dX10_isDislike_29 rfl ?_
      refine g_geti (j := 20) dX10_isDislike_30 gc10 rfl (by decide) rfl (by decide) fl_M_251 ?_
      try simp (disch := omega) only [e20, e69]
      refine g_iconst (nI 1) dX10_isDislike_33 ki_1 ?_
      first | refine g_iadd_n dX10_isDislike_34 ?_ | refine g_iadd dX10_isDislike_34 ?_
      refine g_iald_n dX10_isDislike_35 (by first | rfl | assumption) (by first | decide | assumption) (by omega) (by omega) ?_
      try simp (disch := omega) only [e20, e69]
      refine g_bipush (nI 105) dX10_isDislike_36 kb_105 ?_
      refine g_icmp_ne_n 126 dX10_isDislike_38 (by decide) (by omega) (by omega) (fun c38 => ?_) (fun c38 => ?_)
      · exact hbad (decide_eq_false (fun q => c38 q.2.2.1))
      · have x2 := hb 2 (by omega)
        have y2 := hl (a + 2) (by omega)
        rw [x2] at h hbad
        refine g_aload_n dX10_isDislike_41 rfl ?_
        refine g_getr (j := 18) dX10_isDislike_42 gc10 rfl (by decide) rfl (by decide) fl_M_44 ?_
        refine g_aload_n dX10_isDislike_45 rfl ?_
        refine g_geti (j := 20) dX10_isDislike_46 gc10 rfl (by decide) rfl (by decide) fl_M_251 ?_
        try simp (disch := omega) only [e20, e69]
        refine g_iconst (nI 2) dX10_isDislike_49 ki_2 ?_
        first | refine g_iadd_n dX10_isDislike_50 ?_ | refine g_iadd dX10_isDislike_50 ?_
        refine g_iald_n dX10_isDislike_51 (by first | rfl | assumption) (by first | decide | assumption) (by omega) (by omega) ?_
        try simp (disch := omega) only [e20, e69]
        refine g_bipush (nI 115) dX10_isDislike_52 kb_115 ?_
        refine g_icmp_ne_n 126 dX10_isDislike_54 (by decide) (by omega) (by omega) (fun c54 => ?_) (fun c54 => ?_)
        · exact hbad (decide_eq_false (fun q => c54 q.2.2.2.1))
        · have x3 := hb 3 (by omega)
          have y3 := hl (a + 3) (by omega)
          rw [x3] at h hbad
          refine g_aload_n dX10_isDislike_57 rfl ?_
          refine g_getr (j := 18) dX10_isDislike_58 gc10 rfl (by decide) rfl (by decide) fl_M_44 ?_
          refine g_aload_n dX10_isDislike_61 rfl ?_
          refine g_geti (j := 20) dX10_isDislike_62 gc10 rfl (by decide) rfl (by decide) fl_M_251 ?_
          try simp (disch := omega) only [e20, e69]
          refine g_iconst (nI 3) dX10_isDislike_65 ki_3 ?_
          first | refine g_iadd_n dX10_isDislike_66 ?_ | refine g_iadd dX10_isDislike_66 ?_
          refine g_iald_n dX10_isDislike_67 (by first | rfl | assumption) (by first | decide | assumption) (by omega) (by omega) ?_
          try simp (disch := omega) only [e20, e69]
          refine g_bipush (nI 108) dX10_isDislike_68 kb_108 ?_
          refine g_icmp_ne_n 126 dX10_isDislike_70 (by decide) (by omega) (by omega) (fun c70 => ?_) (fun c70 => ?_)
          · exact hbad (decide_eq_false (fun q => c70 q.2.2.2.2.1))
          · have x4 := hb 4 (by omega)
            have y4 := hl (a + 4) (by omega)
            rw [x4] at h hbad
            refine g_aload_n dX10_isDislike_73 rfl ?_
            refine g_getr (j := 18) dX10_isDislike_74 gc10 rfl (by decide) rfl (by decide) fl_M_44 ?_
            refine g_aload_n dX10_isDislike_77 rfl ?_
            refine g_geti (j := 20) dX10_isDislike_78 gc10 rfl (by decide) rfl (by decide) fl_M_251 ?_
            try simp (disch := omega) only [e20, e69]
            refine g_iconst (nI 4) dX10_isDislike_81 ki_4 ?_
            first | refine g_iadd_n dX10_isDislike_82 ?_ | refine g_iadd dX10_isDislike_82 ?_
            refine g_iald_n dX10_isDislike_83 (by first | rfl | assumption) (by first | decide | assumption) (by omega) (by omega) ?_
            try simp (disch := omega) only [e20, e69]
            refine g_bipush (nI 105) dX10_isDislike_84 kb_105 ?_
            refine g_icmp_ne_n 126 dX10_isDislike_86 (by decide) (by omega) (by omega) (fun c86 => ?_) (fun c86 => ?_)
            · exact hbad (decide_eq_false (fun q => c86 q.2.2.2.2.2.1))
            · have x5 := hb 5 (by omega)
              have y5 := hl (a + 5) (by omega)
              rw [x5] at h hbad
              refine g_aload_n dX10_isDislike_89 rfl ?_
              refine g_getr (j := 18) dX10_isDislike_90 gc10 rfl (by decide) rfl (by decide) fl_M_44 ?_
              refine g_aload_n dX10_isDislike_93 rfl ?_
              refine g_geti (j := 20) dX10_isDislike_94 gc10 rfl (by decide) rfl (by decide) fl_M_251 ?_
              try simp (disch := omega) only [e20, e69]
              refine g_iconst (nI 5) dX10_isDislike_97 ki_5 ?_
              first | refine g_iadd_n dX10_isDislike_98 ?_ | refine g_iadd dX10_isDislike_98 ?_
              refine g_iald_n dX10_isDislike_99 (by first | rfl | assumption) (by first | decide | assumption) (by omega) (by omega) ?_
              try simp (disch := omega) only [e20, e69]
              refine g_bipush (nI 107) dX10_isDislike_100 kb_107 ?_
              refine g_icmp_ne_n 126 dX10_isDislike_102 (by decide) (by omega) (by omega) (fun c102 => ?_) (fun c102 => ?_)
              · exact hbad (decide_eq_false (fun q => c102 q.2.2.2.2.2.2.1))
              · have x6 := hb 6 (by omega)
                have y6 := hl (a + 6) (by omega)
                rw [x6] at h hbad
                refine g_aload_n dX10_isDislike_105 rfl ?_
                refine g_getr (j := 18) dX10_isDislike_106 gc10 rfl (by decide) rfl (by decide) fl_M_44 ?_
                refine g_aload_n dX10_isDislike_109 rfl ?_
                refine g_geti (j := 20) dX10_isDislike_110 gc10 rfl (by decide) rfl (by decide) fl_M_251 ?_
                try simp (disch := omega) only [e20, e69]
                refine g_bipush (nI 6) dX10_isDislike_113 kb_6 ?_
                first | refine g_iadd_n dX10_isDislike_115 ?_ | refine g_iadd dX10_isDislike_115 ?_
                refine g_iald_n dX10_isDislike_116 (by first | rfl | assumption) (by first | decide | assumption) (by omega) (by omega) ?_
                try simp (disch := omega) only [e20, e69]
                refine g_bipush (nI 101) dX10_isDislike_117 kb_101 ?_
                refine g_icmp_ne_n 126 dX10_isDislike_119 (by decide) (by omega) (by omega) (fun c119 => ?_) (fun c119 => ?_)
                · exact hbad (decide_eq_false (fun q => c119 q.2.2.2.2.2.2.2))
                · refine g_iconst (nI 1) dX10_isDislike_122 ki_1 ?_
                  refine g_goto 127 dX10_isDislike_123 (by decide) ?_
                  refine g_ireturn dX10_isDislike_127 rfl (by first | rfl | exact nar_bI _) ?_
                  exact qb_t h (decide_eq_true ⟨c8, c22, c38, c54, c70, c86, c102, c119⟩)
theorem ch_eq {x i j c : Nat} (hx : x ≤ 127) (hc : c < 200) (h : chI i j = nI c) : nI x = chI i j ↔ x = c := by
  rw [h]
  exact nI_eq (by omega) (by omega)
theorem wX_0 {n : Nat} {t : Nat → Nat} {a e : Nat} (hb : ∀ i, tb n t i ≤ 127) : wX n t a e 100 97 121 0 = wdB n t a e 0 := by
  unfold wX wdB
  rw [decide_eq_decide]
  constructor
  · rintro ⟨h1, g0, g1, g2, _⟩
    refine ⟨h1, fun j hj => ?_⟩
    have hj : j < 3 := hj
    obtain rfl | rfl | rfl : j = 0 ∨ j = 1 ∨ j = 2 := by omega
    · exact (ch_eq (hb _) (by omega) (by decide)).mpr g0
    · exact (ch_eq (hb _) (by omega) (by decide)).mpr g1
    · exact (ch_eq (hb _) (by omega) (by decide)).mpr g2
  · rintro ⟨h1, h2⟩
    exact ⟨h1, (ch_eq (hb _) (by omega) (by decide)).mp (h2 0 (by decide)), (ch_eq (hb _) (by omega) (by decide)).mp (h2 1 (by decide)), (ch_eq (hb _) (by omega) (by decide)).mp (h2 2 (by decide)), Or.inl rfl⟩
theorem wX_1 {n : Nat} {t : Nat → Nat} {a e : Nat} (hb : ∀ i, tb n t i ≤ 127) : wX n t a e 107 105 110 100 = wdB n t a e 1 := by
  unfold wX wdB
  rw [decide_eq_decide]
  constructor
  · rintro ⟨h1, g0, g1, g2, g3⟩
    have g3 := g3.resolve_left (by decide)
    refine ⟨h1, fun j hj => ?_⟩
    have hj : j < 4 := hj
    obtain rfl | rfl | rfl | rfl : j = 0 ∨ j = 1 ∨ j = 2 ∨ j = 3 := by omega
    · exact (ch_eq (hb _) (by omega) (by decide)).mpr g0
    · exact (ch_eq (hb _) (by omega) (by decide)).mpr g1
    · exact (ch_eq (hb _) (by omega) (by decide)).mpr g2
    · exact (ch_eq (hb _) (by omega) (by decide)).mpr g3
  · rintro ⟨h1, h2⟩
    exact ⟨h1, (ch_eq (hb _) (by omega) (by decide)).mp (h2 0 (by decide)), (ch_eq (hb _) (by omega) (by decide)).mp (h2 1 (by decide)), (ch_eq (hb _) (by omega) (by decide)).mp (h2 2 (by decide)), Or.inr ((ch_eq (hb _) (by omega) (by decide)).mp (h2 3 (by decide)))⟩
theorem wX_2 {n : Nat} {t : Nat → Nat} {a e : Nat} (hb : ∀ i, tb n t i ≤ 127) : wX n t a e 119 104 111 0 = wdB n t a e 2 := by
  unfold wX wdB
  rw [decide_eq_decide]
  constructor
  · rintro ⟨h1, g0, g1, g2, _⟩
    refine ⟨h1, fun j hj => ?_⟩
    have hj : j < 3 := hj
    obtain rfl | rfl | rfl : j = 0 ∨ j = 1 ∨ j = 2 := by omega
    · exact (ch_eq (hb _) (by omega) (by decide)).mpr g0
    · exact (ch_eq (hb _) (by omega) (by decide)).mpr g1
    · exact (ch_eq (hb _) (by omega) (by decide)).mpr g2
  · rintro ⟨h1, h2⟩
    exact ⟨h1, (ch_eq (hb _) (by omega) (by decide)).mp (h2 0 (by decide)), (ch_eq (hb _) (by omega) (by decide)).mp (h2 1 (by decide)), (ch_eq (hb _) (by omega) (by decide)).mp (h2 2 (by decide)), Or.inl rfl⟩
theorem wX_3 {n : Nat} {t : Nat → Nat} {a e : Nat} (hb : ∀ i, tb n t i ≤ 127) : wX n t a e 104 101 108 100 = wdB n t a e 3 := by
  unfold wX wdB
  rw [decide_eq_decide]
  constructor
  · rintro ⟨h1, g0, g1, g2, g3⟩
    have g3 := g3.resolve_left (by decide)
    refine ⟨h1, fun j hj => ?_⟩
    have hj : j < 4 := hj
    obtain rfl | rfl | rfl | rfl : j = 0 ∨ j = 1 ∨ j = 2 ∨ j = 3 := by omega
    · exact (ch_eq (hb _) (by omega) (by decide)).mpr g0
    · exact (ch_eq (hb _) (by omega) (by decide)).mpr g1
    · exact (ch_eq (hb _) (by omega) (by decide)).mpr g2
    · exact (ch_eq (hb _) (by omega) (by decide)).mpr g3
  · rintro ⟨h1, h2⟩
    exact ⟨h1, (ch_eq (hb _) (by omega) (by decide)).mp (h2 0 (by decide)), (ch_eq (hb _) (by omega) (by decide)).mp (h2 1 (by decide)), (ch_eq (hb _) (by omega) (by decide)).mp (h2 2 (by decide)), Or.inr ((ch_eq (hb _) (by omega) (by decide)).mp (h2 3 (by decide)))⟩
theorem wX_4 {n : Nat} {t : Nat → Nat} {a e : Nat} (hb : ∀ i, tb n t i ≤ 127) : dX n t a e = wdB n t a e 4 := by
  unfold dX wdB
  rw [decide_eq_decide]
  constructor
  · rintro ⟨h1, g0, g1, g2, g3, g4, g5, g6⟩
    refine ⟨h1, fun j hj => ?_⟩
    have hj : j < 7 := hj
    obtain rfl | rfl | rfl | rfl | rfl | rfl | rfl : j = 0 ∨ j = 1 ∨ j = 2 ∨ j = 3 ∨ j = 4 ∨ j = 5 ∨ j = 6 := by omega
    · exact (ch_eq (hb _) (by omega) (by decide)).mpr g0
    · exact (ch_eq (hb _) (by omega) (by decide)).mpr g1
    · exact (ch_eq (hb _) (by omega) (by decide)).mpr g2
    · exact (ch_eq (hb _) (by omega) (by decide)).mpr g3
    · exact (ch_eq (hb _) (by omega) (by decide)).mpr g4
    · exact (ch_eq (hb _) (by omega) (by decide)).mpr g5
    · exact (ch_eq (hb _) (by omega) (by decide)).mpr g6
  · rintro ⟨h1, h2⟩
    exact ⟨h1, (ch_eq (hb _) (by omega) (by decide)).mp (h2 0 (by decide)), (ch_eq (hb _) (by omega) (by decide)).mp (h2 1 (by decide)), (ch_eq (hb _) (by omega) (by decide)).mp (h2 2 (by decide)), (ch_eq (hb _) (by omega) (by decide)).mp (h2 3 (by decide)), (ch_eq (hb _) (by omega) (by decide)).mp (h2 4 (by decide)), (ch_eq (hb _) (by omega) (by decide)).mp (h2 5 (by decide)), (ch_eq (hb _) (by omega) (by decide)).mp (h2 6 (by decide))⟩
theorem wX_5 {n : Nat} {t : Nat → Nat} {a e : Nat} (hb : ∀ i, tb n t i ≤ 127) : wX n t a e 119 101 101 107 = wdB n t a e 5 := by
  unfold wX wdB
  rw [decide_eq_decide]
  constructor
  · rintro ⟨h1, g0, g1, g2, g3⟩
    have g3 := g3.resolve_left (by decide)
    refine ⟨h1, fun j hj => ?_⟩
    have hj : j < 4 := hj
    obtain rfl | rfl | rfl | rfl : j = 0 ∨ j = 1 ∨ j = 2 ∨ j = 3 := by omega
    · exact (ch_eq (hb _) (by omega) (by decide)).mpr g0
    · exact (ch_eq (hb _) (by omega) (by decide)).mpr g1
    · exact (ch_eq (hb _) (by omega) (by decide)).mpr g2
    · exact (ch_eq (hb _) (by omega) (by decide)).mpr g3
  · rintro ⟨h1, h2⟩
    exact ⟨h1, (ch_eq (hb _) (by omega) (by decide)).mp (h2 0 (by decide)), (ch_eq (hb _) (by omega) (by decide)).mp (h2 1 (by decide)), (ch_eq (hb _) (by omega) (by decide)).mp (h2 2 (by decide)), Or.inr ((ch_eq (hb _) (by omega) (by decide)).mp (h2 3 (by decide)))⟩
theorem wd_45 {n : Nat} {t : Nat → Nat} {a e : Nat} (h : wdB n t a e 5 = true) : wdB n t a e 4 = false := by
  unfold wdB at h ⊢
  have h := of_decide_eq_true h
  have h1 : e - a = 4 := h.1
  exact decide_eq_false (fun z => by
    have z1 : e - a = 7 := z.1
    omega)
theorem SM_holderX {d dd A K u X : Nat} {M : Mm} {Q : Po} (hV : VX dd A K u X M) (h : Q M (some (.int (hv u)))) : Call (d + 1) mM_holder [.ref 57, .int (nI dd)] M Q := by
  obtain ⟨v1, v2, v3, v4, v5, v6, v7, v8, v9, v10⟩ := hV
  refine Call_of (m := mM_holder) [some (.ref 57), some (.int (nI dd))] rfl (fun G => Nat.le_of_ble_eq_true rfl) (fun G => rfl) ?_
  refine g_aload_n dX10_holder_0 rfl ?_
  refine g_getr (j := 0) dX10_holder_1 gc10 rfl (by decide) rfl (by decide) fl_M_9 ?_
  refine g_sipush (nI 299) dX10_holder_4 ks_299 ?_
  refine g_iload_n dX10_holder_7 rfl ?_
  first | refine g_iadd_n dX10_holder_8 ?_ | refine g_iadd dX10_holder_8 ?_
  refine g_iald_n dX10_holder_9 (by first | rfl | assumption) (by first | decide | assumption) (by omega) (by omega) ?_
  try simp (disch := omega) only [v8]
  refine g_ireturn dX10_holder_10 rfl (by first | rfl | exact nar_bI _) ?_
  exact h
theorem SM_dislikeX {d dd A K u X : Nat} {M : Mm} {Q : Po} (hV : VX dd A K u X M) (hu : u < 8) (h : Q M (some (.int (nI X)))) : Call (d + 1) mM_dislikeOf [.ref 57, .int (nI u), .int (nI dd)] M Q := by
  obtain ⟨v1, v2, v3, v4, v5, v6, v7, v8, v9, v10⟩ := hV
  have v9 := v9 hu
  refine Call_of (m := mM_dislikeOf) [some (.ref 57), some (.int (nI u)), some (.int (nI dd))] rfl (fun G => Nat.le_of_ble_eq_true rfl) (fun G => rfl) ?_
  refine g_aload_n dX10_dislikeOf_0 rfl ?_
  refine g_getr (j := 0) dX10_dislikeOf_1 gc10 rfl (by decide) rfl (by decide) fl_M_9 ?_
  refine g_sipush (nI 323) dX10_dislikeOf_4 ks_323 ?_
  refine g_bipush (nI 24) dX10_dislikeOf_7 kb_24 ?_
  refine g_iload_n dX10_dislikeOf_9 rfl ?_
  first | refine g_imul_n dX10_dislikeOf_10 ?_ | refine g_imul dX10_dislikeOf_10 ?_
  first | refine g_iadd_n dX10_dislikeOf_11 ?_ | refine g_iadd dX10_dislikeOf_11 ?_
  refine g_iload_n dX10_dislikeOf_12 rfl ?_
  first | refine g_iadd_n dX10_dislikeOf_13 ?_ | refine g_iadd dX10_dislikeOf_13 ?_
  refine g_iald_n dX10_dislikeOf_14 (by first | rfl | assumption) (by first | decide | assumption) (by omega) (by omega) ?_
  try simp (disch := omega) only [v9]
  refine g_ireturn dX10_dislikeOf_15 rfl (by first | rfl | exact nar_bI _) ?_
  exact h
theorem SM_worthOf {d : Nat} {n : Nat} {t : Nat → Nat} {M : Mm} {Q : Po} {a e dd A K u X : Nat} (hT : TPm n t M) (hV : VX dd A K u X M) (ha : a ≤ e) (he : e ≤ n) (e20 : M 57 20 = nI a) (h : Q M (some (.int (if wdI n t a e = 6 then -1 else nI (vwF A K u X (wdI n t a e)))))) : Call (d + 3) mM_worthOf [.ref 57, .int (nI e)] M Q := by
  have hb := hT.tb_le
  obtain ⟨v1, v2, v3, v4, v5, v6, v7, v8, v9, v10⟩ := id hV
  have hlt := hv_lt v4
  unfold wdI at h
  refine Call_of (m := mM_worthOf) [some (.ref 57), some (.int (nI e)), none] rfl (fun G => Nat.le_of_ble_eq_true rfl) (fun G => rfl) ?_
  refine g_aload_n dX10_worthOf_0 rfl ?_
  refine g_aload_n dX10_worthOf_1 rfl ?_
  refine g_geti (j := 25) dX10_worthOf_2 gc10 rfl (by decide) rfl (by decide) fl_M_295 ?_
  try simp (disch := omega) only [v10]
  refine g_call1 dX10_worthOf_5 clM_holder ml_M_78 gc10 rfl rfl (by decide) (Nat.le_of_ble_eq_true rfl) ?_
  refine SM_holderX hV ?_
  refine g_ist3_2 dX10_worthOf_8 (by decide) rfl ?_
  refine g_aload_n dX10_worthOf_9 rfl ?_
  refine g_iload_n dX10_worthOf_10 rfl ?_
  refine g_bipush (nI 100) dX10_worthOf_11 kb_100 ?_
  refine g_bipush (nI 97) dX10_worthOf_13 kb_97 ?_
  refine g_bipush (nI 121) dX10_worthOf_15 kb_121 ?_
  refine g_iconst (nI 0) dX10_worthOf_17 ki_0 ?_
  refine g_call5 dX10_worthOf_18 clM_isWord ml_M_298 gc10 rfl rfl (by decide) (Nat.le_of_ble_eq_true rfl) ?_
  refine SM_isWord (c0 := 100) (c1 := 97) (c2 := 121) (c3 := 0) hT ha he e20 (by omega) ?_
  rw [wX_0 hb]
  refine g_if_eq_b 38 dX10_worthOf_21 (by decide) (fun c21 => ?_) (fun c21 => ?_)
  · rw [if_neg (c := wdB n t a e 0 = true) (by rw [c21]; decide)] at h
    refine g_aload_n dX10_worthOf_38 rfl ?_
    refine g_iload_n dX10_worthOf_39 rfl ?_
    refine g_bipush (nI 107) dX10_worthOf_40 kb_107 ?_
    refine g_bipush (nI 105) dX10_worthOf_42 kb_105 ?_
    refine g_bipush (nI 110) dX10_worthOf_44 kb_110 ?_
    refine g_bipush (nI 100) dX10_worthOf_46 kb_100 ?_
    refine g_call5 dX10_worthOf_48 clM_isWord ml_M_298 gc10 rfl rfl (by decide) (Nat.le_of_ble_eq_true rfl) ?_
    refine SM_isWord (c0 := 107) (c1 := 105) (c2 := 110) (c3 := 100) hT ha he e20 (by omega) ?_
    rw [wX_1 hb]
    refine g_if_eq_b 68 dX10_worthOf_51 (by decide) (fun c51 => ?_) (fun c51 => ?_)
    · rw [if_neg (c := wdB n t a e 1 = true) (by rw [c51]; decide)] at h
      refine g_aload_n dX10_worthOf_68 rfl ?_
      refine g_iload_n dX10_worthOf_69 rfl ?_
      refine g_bipush (nI 119) dX10_worthOf_70 kb_119 ?_
      refine g_bipush (nI 104) dX10_worthOf_72 kb_104 ?_
      refine g_bipush (nI 111) dX10_worthOf_74 kb_111 ?_
      refine g_iconst (nI 0) dX10_worthOf_76 ki_0 ?_
      refine g_call5 dX10_worthOf_77 clM_isWord ml_M_298 gc10 rfl rfl (by decide) (Nat.le_of_ble_eq_true rfl) ?_
      refine SM_isWord (c0 := 119) (c1 := 104) (c2 := 111) (c3 := 0) hT ha he e20 (by omega) ?_
      rw [wX_2 hb]
      refine g_if_eq_b 94 dX10_worthOf_80 (by decide) (fun c80 => ?_) (fun c80 => ?_)
      · rw [if_neg (c := wdB n t a e 2 = true) (by rw [c80]; decide)] at h
        refine g_aload_n dX10_worthOf_94 rfl ?_
        refine g_iload_n dX10_worthOf_95 rfl ?_
        refine g_bipush (nI 104) dX10_worthOf_96 kb_104 ?_
        refine g_bipush (nI 101) dX10_worthOf_98 kb_101 ?_
        refine g_bipush (nI 108) dX10_worthOf_100 kb_108 ?_
        refine g_bipush (nI 100) dX10_worthOf_102 kb_100 ?_
        refine g_call5 dX10_worthOf_104 clM_isWord ml_M_298 gc10 rfl rfl (by decide) (Nat.le_of_ble_eq_true rfl) ?_
        refine SM_isWord (c0 := 104) (c1 := 101) (c2 := 108) (c3 := 100) hT ha he e20 (by omega) ?_
        rw [wX_3 hb]
        refine g_if_eq_b 120 dX10_worthOf_107 (by decide) (fun c107 => ?_) (fun c107 => ?_)
        · rw [if_neg (c := wdB n t a e 3 = true) (by rw [c107]; decide)] at h
          refine g_aload_n dX10_worthOf_120 rfl ?_
          refine g_iload_n dX10_worthOf_121 rfl ?_
          refine g_bipush (nI 119) dX10_worthOf_122 kb_119 ?_
          refine g_bipush (nI 101) dX10_worthOf_124 kb_101 ?_
          refine g_bipush (nI 101) dX10_worthOf_126 kb_101 ?_
          refine g_bipush (nI 107) dX10_worthOf_128 kb_107 ?_
          refine g_call5 dX10_worthOf_130 clM_isWord ml_M_298 gc10 rfl rfl (by decide) (Nat.le_of_ble_eq_true rfl) ?_
          refine SM_isWord (c0 := 119) (c1 := 101) (c2 := 101) (c3 := 107) hT ha he e20 (by omega) ?_
          rw [wX_5 hb]
          refine g_if_eq_b 153 dX10_worthOf_133 (by decide) (fun c133 => ?_) (fun c133 => ?_)
          · rw [if_neg (c := wdB n t a e 5 = true) (by rw [c133]; decide)] at h
            refine g_aload_n dX10_worthOf_153 rfl ?_
            refine g_iload_n dX10_worthOf_154 rfl ?_
            refine g_call1 dX10_worthOf_155 clM_isDislike ml_M_302 gc10 rfl rfl (by decide) (Nat.le_of_ble_eq_true rfl) ?_
            refine SM_isDislike hT ha he e20 ?_
            rw [wX_4 hb]
            refine g_if_eq_b 181 dX10_worthOf_158 (by decide) (fun c158 => ?_) (fun c158 => ?_)
            · rw [if_neg (c := wdB n t a e 4 = true) (by rw [c158]; decide)] at h
              refine g_iconst ((-1)) dX10_worthOf_181 ki_m1 ?_
              refine g_ireturn dX10_worthOf_182 rfl (by first | rfl | exact nar_bI _) ?_
              exact h
            · rw [if_pos (c := wdB n t a e 4 = true) c158] at h
              have h : Q M (some (.int (nI (if u = 8 then 0 else X)))) := h
              refine g_iload_n dX10_worthOf_161 rfl ?_
              refine g_if_ge 169 dX10_worthOf_162 (by decide) (fun c162 => ?_) (fun c162 => ?_)
              · have hu : ¬ u = 8 := fun z => Int32.not_lt.mpr c162 (hlt.mpr z)
                rw [if_neg hu] at h
                rw [hv_p (p := u) (by omega)]
                refine g_aload_n dX10_worthOf_169 rfl ?_
                refine g_iload_n dX10_worthOf_170 rfl ?_
                refine g_aload_n dX10_worthOf_171 rfl ?_
                refine g_geti (j := 25) dX10_worthOf_172 gc10 rfl (by decide) rfl (by decide) fl_M_295 ?_
                try simp (disch := omega) only [v10]
                refine g_call2 dX10_worthOf_175 clM_dislikeOf ml_M_197 gc10 rfl rfl (by decide) (Nat.le_of_ble_eq_true rfl) ?_
                refine SM_dislikeX hV (by omega) ?_
                refine g_goto 182 dX10_worthOf_178 (by decide) ?_
                refine g_ireturn dX10_worthOf_182 rfl (by first | rfl | exact nar_bI _) ?_
                exact h
              · rw [if_pos (hlt.mp (by simpa using c162))] at h
                refine g_iconst (nI 0) dX10_worthOf_165 ki_0 ?_
                refine g_goto 182 dX10_worthOf_166 (by decide) ?_
                refine g_ireturn dX10_worthOf_182 rfl (by first | rfl | exact nar_bI _) ?_
                exact h
          · rw [if_neg (c := wdB n t a e 4 = true) (by rw [wd_45 c133]; decide), if_pos (c := wdB n t a e 5 = true) c133] at h
            have h : Q M (some (.int (nI (A / 7)))) := h
            refine g_aload_n dX10_worthOf_136 rfl ?_
            refine g_getr (j := 0) dX10_worthOf_137 gc10 rfl (by decide) rfl (by decide) fl_M_9 ?_
            refine g_sipush (nI 251) dX10_worthOf_140 ks_251 ?_
            refine g_aload_n dX10_worthOf_143 rfl ?_
            refine g_geti (j := 25) dX10_worthOf_144 gc10 rfl (by decide) rfl (by decide) fl_M_295 ?_
            try simp (disch := omega) only [v10, v6]
            first | refine g_iadd_n dX10_worthOf_147 ?_ | refine g_iadd dX10_worthOf_147 ?_
            refine g_iald_n dX10_worthOf_148 (by first | rfl | assumption) (by first | decide | assumption) (by omega) (by omega) ?_
            try simp (disch := omega) only [v10, v6]
            refine g_bipush (nI 7) dX10_worthOf_149 kb_7 ?_
            refine g_idiv_n dX10_worthOf_151 (by omega) (by omega) (by omega) ?_
            refine g_ireturn dX10_worthOf_152 rfl (by first | rfl | exact nar_bI _) ?_
            exact h
        · rw [if_pos (c := wdB n t a e 3 = true) c107] at h
          have h : Q M (some (.int (nI (if u = 8 then 0 else 1)))) := h
          refine g_iload_n dX10_worthOf_110 rfl ?_
          refine g_if_ge 118 dX10_worthOf_111 (by decide) (fun c111 => ?_) (fun c111 => ?_)
          · rw [if_neg (fun z => Int32.not_lt.mpr c111 (hlt.mpr z))] at h
            refine g_iconst (nI 1) dX10_worthOf_118 ki_1 ?_
            refine g_ireturn dX10_worthOf_119 rfl (by first | rfl | exact nar_bI _) ?_
            exact h
          · rw [if_pos (hlt.mp (by simpa using c111))] at h
            refine g_iconst (nI 0) dX10_worthOf_114 ki_0 ?_
            refine g_goto 119 dX10_worthOf_115 (by decide) ?_
            refine g_ireturn dX10_worthOf_119 rfl (by first | rfl | exact nar_bI _) ?_
            exact h
      · rw [if_pos (c := wdB n t a e 2 = true) c80] at h
        have h : Q M (some (.int (nI (if u = 8 then 10 else u)))) := h
        refine g_iload_n dX10_worthOf_83 rfl ?_
        refine g_if_ge 92 dX10_worthOf_84 (by decide) (fun c84 => ?_) (fun c84 => ?_)
        · have hu : ¬ u = 8 := fun z => Int32.not_lt.mpr c84 (hlt.mpr z)
          rw [if_neg hu] at h
          rw [hv_p (p := u) (by omega)]
          refine g_iload_n dX10_worthOf_92 rfl ?_
          refine g_ireturn dX10_worthOf_93 rfl (by first | rfl | exact nar_bI _) ?_
          exact h
        · rw [if_pos (hlt.mp (by simpa using c84))] at h
          refine g_bipush (nI 10) dX10_worthOf_87 kb_10 ?_
          refine g_goto 93 dX10_worthOf_89 (by decide) ?_
          refine g_ireturn dX10_worthOf_93 rfl (by first | rfl | exact nar_bI _) ?_
          exact h
    · rw [if_pos (c := wdB n t a e 1 = true) c51] at h
      have h : Q M (some (.int (nI K))) := h
      refine g_aload_n dX10_worthOf_54 rfl ?_
      refine g_getr (j := 0) dX10_worthOf_55 gc10 rfl (by decide) rfl (by decide) fl_M_9 ?_
      refine g_sipush (nI 275) dX10_worthOf_58 ks_275 ?_
      refine g_aload_n dX10_worthOf_61 rfl ?_
      refine g_geti (j := 25) dX10_worthOf_62 gc10 rfl (by decide) rfl (by decide) fl_M_295 ?_
      try simp (disch := omega) only [v10, v7]
      first | refine g_iadd_n dX10_worthOf_65 ?_ | refine g_iadd dX10_worthOf_65 ?_
      refine g_iald_n dX10_worthOf_66 (by first | rfl | assumption) (by first | decide | assumption) (by omega) (by omega) ?_
      try simp (disch := omega) only [v10, v7]
      refine g_ireturn dX10_worthOf_67 rfl (by first | rfl | exact nar_bI _) ?_
      exact h
  · rw [if_pos (c := wdB n t a e 0 = true) c21] at h
    have h : Q M (some (.int (nI A))) := h
    refine g_aload_n dX10_worthOf_24 rfl ?_
    refine g_getr (j := 0) dX10_worthOf_25 gc10 rfl (by decide) rfl (by decide) fl_M_9 ?_
    refine g_sipush (nI 251) dX10_worthOf_28 ks_251 ?_
    refine g_aload_n dX10_worthOf_31 rfl ?_
    refine g_geti (j := 25) dX10_worthOf_32 gc10 rfl (by decide) rfl (by decide) fl_M_295 ?_
    try simp (disch := omega) only [v10, v6]
    first | refine g_iadd_n dX10_worthOf_35 ?_ | refine g_iadd dX10_worthOf_35 ?_
    refine g_iald_n dX10_worthOf_36 (by first | rfl | assumption) (by first | decide | assumption) (by omega) (by omega) ?_
    try simp (disch := omega) only [v10, v6]
    refine g_ireturn dX10_worthOf_37 rfl (by first | rfl | exact nar_bI _) ?_
    exact h
/-! CONDITIONS in the reference: one comparison -/
theorem SM_cmpB {d : Nat} {n : Nat} {t : Nat → Nat} {M : Mm} {Q : Po} {sg w0 : Int32} {q3 q4 : TS} {e : Nat} (hT : TM n t M q3) (h4 : (∃ b, q3 = .inl b ∧ b < n ∧ q4 = .inl (b + 1)) ∨ (∃ f, q3 = .inr f ∧ q4 = .inr f)) (h : ∀ M' b, EqT M M' → TM n t M' (nuS n t 0 999 q4) → (okB (nuS n t 0 999 q4) = true → b = if sg = nI 60 then decide (w0 < nI (nuV n t q4)) else if sg = nI 61 then decide (w0 = nI (nuV n t q4)) else decide (nI (nuV n t q4) < w0)) → Q M' (some (.int (bI b)))) : Go mM_compared (d + 4) Q 84 [some (.ref 57), some (.int (nI e)), some (.int w0), some (.int sg), none] [] M := by
  have hend : ∀ M5, EqT M M5 → TM n t M5 q4 → Go mM_compared (d + 4) Q 105 [some (.ref 57), some (.int (nI e)), some (.int w0), some (.int sg), none] [] M5 := by
    intro M5 hE5 hT5
    refine g_aload_n dX10_compared_105 rfl ?_
    refine g_iconst (nI 0) dX10_compared_106 ki_0 ?_
    refine g_sipush (nI 999) dX10_compared_107 ks_999 ?_
    refine g_call2 dX10_compared_110 clM_number ml_M_273 gc10 rfl rfl (by decide) (Nat.le_of_ble_eq_true rfl) ?_
    refine SM_number (lo := 0) (hi := 999) hT5 (fun _ => ⟨rfl, rfl⟩) (by omega) (by omega) (fun M6 v hE6 hT6 hv => ?_)
    have hv2 : okB (nuS n t 0 999 q4) = true → v = nI (nuV n t q4) := fun z => hv (ok_nu z).1
    refine g_ist5_4 dX10_compared_113 (by decide) rfl ?_
    refine g_iload_n dX10_compared_115 rfl ?_
    refine g_bipush (nI 60) dX10_compared_116 kb_60 ?_
    refine g_icmp_ne 135 dX10_compared_118 (by decide) (fun c118 => ?_) (fun c118 => ?_)
    · refine g_iload_n dX10_compared_135 rfl ?_
      refine g_bipush (nI 61) dX10_compared_136 kb_61 ?_
      refine g_icmp_ne 155 dX10_compared_138 (by decide) (fun c138 => ?_) (fun c138 => ?_)
      · refine g_iload_n dX10_compared_155 rfl ?_
        refine g_iload dX10_compared_156 rfl ?_
        refine g_icmp_le 165 dX10_compared_158 (by decide) (fun c158 => ?_) (fun c158 => ?_)
        · refine g_iconst (nI 0) dX10_compared_165 ki_0 ?_
          refine g_ireturn dX10_compared_166 rfl (by first | rfl | exact nar_bI _) ?_
          refine h M6 false (hE5.tr hE6) hT6 (fun z => ?_)
          rw [if_neg c118, if_neg c138, ← hv2 z, decide_eq_false (Int32.not_lt.mpr c158)]
        · refine g_iconst (nI 1) dX10_compared_161 ki_1 ?_
          refine g_goto 166 dX10_compared_162 (by decide) ?_
          refine g_ireturn dX10_compared_166 rfl (by first | rfl | exact nar_bI _) ?_
          refine h M6 true (hE5.tr hE6) hT6 (fun z => ?_)
          rw [if_neg c118, if_neg c138, ← hv2 z, decide_eq_true (Int32.not_le.mp c158)]
      · refine g_iload_n dX10_compared_141 rfl ?_
        refine g_iload dX10_compared_142 rfl ?_
        refine g_icmp_ne 151 dX10_compared_144 (by decide) (fun c144 => ?_) (fun c144 => ?_)
        · refine g_iconst (nI 0) dX10_compared_151 ki_0 ?_
          refine g_goto 166 dX10_compared_152 (by decide) ?_
          refine g_ireturn dX10_compared_166 rfl (by first | rfl | exact nar_bI _) ?_
          refine h M6 false (hE5.tr hE6) hT6 (fun z => ?_)
          rw [if_neg c118, if_pos c138, ← hv2 z, decide_eq_false c144]
        · refine g_iconst (nI 1) dX10_compared_147 ki_1 ?_
          refine g_goto 166 dX10_compared_148 (by decide) ?_
          refine g_ireturn dX10_compared_166 rfl (by first | rfl | exact nar_bI _) ?_
          refine h M6 true (hE5.tr hE6) hT6 (fun z => ?_)
          rw [if_neg c118, if_pos c138, ← hv2 z, decide_eq_true c144]
    · refine g_iload_n dX10_compared_121 rfl ?_
      refine g_iload dX10_compared_122 rfl ?_
      refine g_icmp_ge 131 dX10_compared_124 (by decide) (fun c124 => ?_) (fun c124 => ?_)
      · refine g_iconst (nI 0) dX10_compared_131 ki_0 ?_
        refine g_goto 166 dX10_compared_132 (by decide) ?_
        refine g_ireturn dX10_compared_166 rfl (by first | rfl | exact nar_bI _) ?_
        refine h M6 false (hE5.tr hE6) hT6 (fun z => ?_)
        rw [if_pos c118, ← hv2 z, decide_eq_false (Int32.not_lt.mpr c124)]
      · refine g_iconst (nI 1) dX10_compared_127 ki_1 ?_
        refine g_goto 166 dX10_compared_128 (by decide) ?_
        refine g_ireturn dX10_compared_166 rfl (by first | rfl | exact nar_bI _) ?_
        refine h M6 true (hE5.tr hE6) hT6 (fun z => ?_)
        rw [if_pos c118, ← hv2 z, decide_eq_true (Int32.not_le.mp c124)]
  rcases h4 with ⟨b, rfl, hb, rfl⟩ | ⟨f, rfl, rfl⟩
  · have e20 : M 57 20 = nI b := hT.2.2.1
    have e21 : M 57 21 = -1 := hT.2.2.2
    refine g_aload_n dX10_compared_84 rfl ?_
    refine g_dup dX10_compared_85 rfl ?_
    refine g_geti (j := 20) dX10_compared_86 gc10 rfl (by decide) rfl (by decide) fl_M_251 ?_
    try simp (disch := omega) only [e20, e21]
    refine g_aload_n dX10_compared_89 rfl ?_
    refine g_geti (j := 21) dX10_compared_90 gc10 rfl (by decide) rfl (by decide) fl_M_248 ?_
    try simp (disch := omega) only [e20, e21]
    refine g_if_ge 100 dX10_compared_93 (by decide) (fun c93 => ?_) (fun c93 => ?_)
    · exact absurd c93 (by decide)
    · refine g_iconst (nI 1) dX10_compared_96 ki_1 ?_
      refine g_goto 101 dX10_compared_97 (by decide) ?_
      first | refine g_iadd_n dX10_compared_101 ?_ | refine g_iadd dX10_compared_101 ?_
      refine g_puti (j := 20) dX10_compared_102 gc10 rfl (by decide) rfl (by decide) fl_M_251 rfl (tyX10_ok 20 (by decide)) (by first | rfl | exact nar_bI _) rfl ?_
      exact hend _ (EqT.set (by omega)) (hT.set (by omega))
  · obtain ⟨a, ha, e20, _⟩ := hT.at
    have e21 : M 57 21 = nI f := hT.2.2.1
    have hf : f ≤ n := hT.2.1
    have hn := hT.1.1
    refine g_aload_n dX10_compared_84 rfl ?_
    refine g_dup dX10_compared_85 rfl ?_
    refine g_geti (j := 20) dX10_compared_86 gc10 rfl (by decide) rfl (by decide) fl_M_251 ?_
    try simp (disch := omega) only [e20, e21]
    refine g_aload_n dX10_compared_89 rfl ?_
    refine g_geti (j := 21) dX10_compared_90 gc10 rfl (by decide) rfl (by decide) fl_M_248 ?_
    try simp (disch := omega) only [e20, e21]
    refine g_if_ge_n 100 dX10_compared_93 (by decide) (by omega) ?_
    refine g_iconst (nI 0) dX10_compared_100 ki_0 ?_
    first | refine g_iadd_n dX10_compared_101 ?_ | refine g_iadd dX10_compared_101 ?_
    refine g_puti (j := 20) dX10_compared_102 gc10 rfl (by decide) rfl (by decide) fl_M_251 rfl (tyX10_ok 20 (by decide)) (by first | rfl | exact nar_bI _) rfl ?_
    exact hend _ (EqT.set (by omega)) (hT.set_r ha)
theorem mu_f {n : Nat} {t : Nat → Nat} {c : Nat} {q : TS} (h : tk n t c q = false) : mu n t c q = flA q := by
  cases q with
  | inl a =>
    have h : ¬ tb n t a = c := of_decide_eq_false h
    simp only [mu]
    rw [if_neg h]
    rfl
  | inr f => rfl
theorem mu_t {n : Nat} {t : Nat → Nat} {c : Nat} {q : TS} (h : tk n t c q = true) : mu n t c q = tkS n t c q := by
  cases q with
  | inl a =>
    have h : tb n t a = c := of_decide_eq_true h
    simp only [mu, tkS]
    rw [if_pos h, if_pos h]
  | inr f => rfl
theorem flA_r (q : TS) : ∃ f, flA q = .inr f := by
  cases q with
  | inl a => exact ⟨a, rfl⟩
  | inr f => exact ⟨f, rfl⟩
theorem SM_cmpA {d : Nat} {n : Nat} {t : Nat → Nat} {M : Mm} {Q : Po} {w0 : Int32} {q2 : TS} {e : Nat} (hT : TM n t M q2) (h : ∀ M' b, EqT M M' → TM n t M' (cqP n t w0 q2).1 → (okB (cqP n t w0 q2).1 = true → b = (cqP n t w0 q2).2) → Q M' (some (.int (bI b)))) : Go mM_compared (d + 4) Q 53 [some (.ref 57), some (.int (nI e)), some (.int w0), none, none] [] M := by
  have hh := fun c hc => hrV_eq (n := n) (t := t) (q := q2) (c := c) hT.1.2.1 hc
  have h60 := hh 60 (by omega)
  have h61 := hh 61 (by omega)
  have h62 := hh 62 (by omega)
  clear hh
  unfold cqP at h
  refine g_aload_n dX10_compared_53 rfl ?_
  refine g_call0 dX10_compared_54 clM_here ml_M_254 gc10 rfl rfl (by decide) (Nat.le_of_ble_eq_true rfl) ?_
  refine SM_here hT ?_
  generalize hrV n t q2 = sg at h60 h61 h62 ⊢
  refine g_ist5_3 dX10_compared_57 (by decide) rfl ?_
  refine g_iload_n dX10_compared_58 rfl ?_
  refine g_bipush (nI 60) dX10_compared_59 kb_60 ?_
  refine g_icmp_eq 84 dX10_compared_61 (by decide) (fun c61 => ?_) (fun c61 => ?_)
  · have k := h60.mp c61
    rw [if_pos k] at h
    dsimp only at h
    obtain ⟨b, e1, e2, hb, e3⟩ := tkS_t k (by omega)
    rw [e2] at h
    refine SM_cmpB (q4 := .inl (b + 1)) hT (Or.inl ⟨b, e1, hb, rfl⟩) (fun M' b2 hE hT' hb2 => h M' b2 hE hT' (fun z => ?_))
    rw [hb2 z, if_pos c61]
  · have k60 : ¬ tk n t 60 q2 = true := fun z => c61 (h60.mpr z)
    rw [if_neg k60] at h
    refine g_iload_n dX10_compared_64 rfl ?_
    refine g_bipush (nI 61) dX10_compared_65 kb_61 ?_
    refine g_icmp_eq 84 dX10_compared_67 (by decide) (fun c67 => ?_) (fun c67 => ?_)
    · have k62 : ¬ tk n t 62 q2 = true := fun z => absurd (c67.symm.trans (h62.mpr z)) (by decide)
      have k := h61.mp c67
      rw [if_neg k62] at h
      dsimp only at h
      obtain ⟨b, e1, e2, hb, e3⟩ := tkS_t k (by omega)
      rw [mu_t k, e2] at h
      refine SM_cmpB (q4 := .inl (b + 1)) hT (Or.inl ⟨b, e1, hb, rfl⟩) (fun M' b2 hE hT' hb2 => h M' b2 hE hT' (fun z => ?_))
      rw [hb2 z, if_neg c61, if_pos c67]
    · have k61 : ¬ tk n t 61 q2 = true := fun z => c67 (h61.mpr z)
      refine g_iload_n dX10_compared_70 rfl ?_
      refine g_bipush (nI 62) dX10_compared_71 kb_62 ?_
      refine g_icmp_eq 84 dX10_compared_73 (by decide) (fun c73 => ?_) (fun c73 => ?_)
      · have k := h62.mp c73
        rw [if_pos k] at h
        dsimp only at h
        obtain ⟨b, e1, e2, hb, e3⟩ := tkS_t k (by omega)
        rw [e2] at h
        refine SM_cmpB (q4 := .inl (b + 1)) hT (Or.inl ⟨b, e1, hb, rfl⟩) (fun M' b2 hE hT' hb2 => h M' b2 hE hT' (fun z => ?_))
        rw [hb2 z, if_neg c61, if_neg c67]
      · have k62 : ¬ tk n t 62 q2 = true := fun z => c73 (h62.mpr z)
        have k61 := Bool.eq_false_iff.mpr k61
        rw [if_neg k62] at h
        dsimp only at h
        rw [mu_f k61] at h
        refine g_aload_n dX10_compared_76 rfl ?_
        refine g_aload_n dX10_compared_77 rfl ?_
        refine g_geti (j := 20) dX10_compared_78 gc10 rfl (by decide) rfl (by decide) fl_M_251 ?_
        refine g_call1 dX10_compared_81 clM_faults ml_M_260 gc10 rfl rfl (by decide) (Nat.le_of_ble_eq_true rfl) ?_
        refine SM_faultsA hT rfl (fun M3 hE3 hT3 => ?_)
        obtain ⟨f, ef⟩ := flA_r q2
        rw [ef] at hT3 h
        refine SM_cmpB hT3 (Or.inr ⟨f, rfl, rfl⟩) (fun M' b hE hT' hb => h M' b (hE3.tr hE) hT' (fun z => by cases z))
theorem vwF_le {A K u X w : Nat} (hA : A ≤ 365) (hK : K ≤ 3) (hu : u ≤ 8) (hX : X ≤ 9) : vwF A K u X w ≤ 365 := by
  unfold vwF
  match w with
  | 0 => exact hA
  | 1 => show K ≤ 365; omega
  | 2 => show (if u = 8 then 10 else u) ≤ 365; split <;> omega
  | 3 => show (if u = 8 then 0 else 1) ≤ 365; split <;> omega
  | 4 => show (if u = 8 then 0 else X) ≤ 365; split <;> omega
  | 5 => show A / 7 ≤ 365; omega
  | n + 6 => simp
theorem SM_compared {d : Nat} {n : Nat} {t : Nat → Nat} {M : Mm} {Q : Po} {q : TS} {dd A K u X : Nat} (hT : TM n t M q) (hV : VX dd A K u X M) (h : ∀ M' b, EqT M M' → TM n t M' (cmP n t (fun w => nI (vwF A K u X w)) q).1 → (okB (cmP n t (fun w => nI (vwF A K u X w)) q).1 = true → b = (cmP n t (fun w => nI (vwF A K u X w)) q).2) → Q M' (some (.int (bI b)))) : Call (d + 4) mM_compared [.ref 57] M Q := by
  obtain ⟨a, ha, e20, ea⟩ := hT.at
  obtain ⟨w1, w2⟩ := wdG_le (n := n) (t := t) (k := 150) ha
  have hn := hT.1.1
  obtain ⟨v1, v2, v3, v4, v5, v6, v7, v8, v9, v10⟩ := id hV
  have hvw := fun w => vwF_le (w := w) v2 v3 v4 v5
  refine Call_of (m := mM_compared) [some (.ref 57), none, none, none, none] rfl (fun G => Nat.le_of_ble_eq_true rfl) (fun G => rfl) ?_
  refine g_aload_n dX10_compared_0 rfl ?_
  refine g_call0 dX10_compared_1 clM_wordEnd ml_M_305 gc10 rfl rfl (by decide) (Nat.le_of_ble_eq_true rfl) ?_
  refine SM_wordEnd hT.1 ha e20 ?_
  cases q with
  | inr f =>
    have e21 : M 57 21 = nI f := hT.2.2.1
    have hf : f ≤ n := hT.2.1
    refine g_ist5_1 dX10_compared_4 (by decide) rfl ?_
    refine g_aload_n dX10_compared_5 rfl ?_
    refine g_geti (j := 21) dX10_compared_6 gc10 rfl (by decide) rfl (by decide) fl_M_248 ?_
    try simp (disch := omega) only [e21, e20]
    refine g_if_ge_n 20 dX10_compared_9 (by decide) (by omega) ?_
    refine g_iconst (nI 0) dX10_compared_20 ki_0 ?_
    refine g_ist5_2 dX10_compared_21 (by decide) rfl ?_
    refine g_iload_n dX10_compared_22 rfl ?_
    refine g_if_ge_n 34 dX10_compared_23 (by decide) (by omega) ?_
    refine g_aload_n dX10_compared_34 rfl ?_
    refine g_aload_n dX10_compared_35 rfl ?_
    refine g_geti (j := 21) dX10_compared_36 gc10 rfl (by decide) rfl (by decide) fl_M_248 ?_
    try simp (disch := omega) only [e21, e20]
    refine g_if_ge_n 46 dX10_compared_39 (by decide) (by omega) ?_
    refine g_aload_n dX10_compared_46 rfl ?_
    refine g_geti (j := 20) dX10_compared_47 gc10 rfl (by decide) rfl (by decide) fl_M_251 ?_
    try simp (disch := omega) only [e21, e20]
    refine g_puti (j := 20) dX10_compared_50 gc10 rfl (by decide) rfl (by decide) fl_M_251 rfl (tyX10_ok 20 (by decide)) (by first | rfl | exact nar_bI _) rfl ?_
    refine SM_cmpA (q2 := .inr f) (hT.set_r ha) (fun M' b hE hT' hb => h M' b ((EqT.set (by omega)).tr hE) hT' (fun z => by cases z))
  | inl b =>
    obtain rfl := ea b rfl
    have e21 : M 57 21 = -1 := hT.2.2.2
    refine g_ist5_1 dX10_compared_4 (by decide) rfl ?_
    refine g_aload_n dX10_compared_5 rfl ?_
    refine g_geti (j := 21) dX10_compared_6 gc10 rfl (by decide) rfl (by decide) fl_M_248 ?_
    try simp (disch := omega) only [e21, e20]
    refine g_if_ge 20 dX10_compared_9 (by decide) (fun c9 => ?_) (fun c9 => ?_)
    · exact absurd c9 (by decide)
    · refine g_aload_n dX10_compared_12 rfl ?_
      refine g_iload_n dX10_compared_13 rfl ?_
      refine g_call1 dX10_compared_14 clM_worthOf ml_M_308 gc10 rfl rfl (by decide) (Nat.le_of_ble_eq_true rfl) ?_
      refine SM_worthOf hT.1 hV w1 w2 e20 ?_
      by_cases hw : wdI n t b (wdG n t 150 b) = 6
      · rw [if_pos hw]
        simp only [cmP] at h
        rw [if_pos hw] at h
        refine g_goto 21 dX10_compared_17 (by decide) ?_
        refine g_ist5_2 dX10_compared_21 (by decide) rfl ?_
        refine g_iload_n dX10_compared_22 rfl ?_
        refine g_if_ge 34 dX10_compared_23 (by decide) (fun c23 => ?_) (fun c23 => ?_)
        · exact absurd c23 (by decide)
        · refine g_aload_n dX10_compared_26 rfl ?_
          refine g_aload_n dX10_compared_27 rfl ?_
          refine g_geti (j := 20) dX10_compared_28 gc10 rfl (by decide) rfl (by decide) fl_M_251 ?_
          try simp (disch := omega) only [e21, e20]
          refine g_call1 dX10_compared_31 clM_faults ml_M_260 gc10 rfl rfl (by decide) (Nat.le_of_ble_eq_true rfl) ?_
          refine SM_faultsA hT e20.symm (fun M3 hE3 hT3 => ?_)
          have e21 : M3 57 21 = nI b := hT3.2.2.1
          obtain ⟨a2, ha2, e20, _⟩ := hT3.at
          refine g_aload_n dX10_compared_34 rfl ?_
          refine g_aload_n dX10_compared_35 rfl ?_
          refine g_geti (j := 21) dX10_compared_36 gc10 rfl (by decide) rfl (by decide) fl_M_248 ?_
          try simp (disch := omega) only [e21, e20]
          refine g_if_ge_n 46 dX10_compared_39 (by decide) (by omega) ?_
          refine g_aload_n dX10_compared_46 rfl ?_
          refine g_geti (j := 20) dX10_compared_47 gc10 rfl (by decide) rfl (by decide) fl_M_251 ?_
          try simp (disch := omega) only [e21, e20]
          refine g_puti (j := 20) dX10_compared_50 gc10 rfl (by decide) rfl (by decide) fl_M_251 rfl (tyX10_ok 20 (by decide)) (by first | rfl | exact nar_bI _) rfl ?_
          refine SM_cmpA (q2 := .inr b) (TM.set_r hT3 ha2) (fun M' b hE hT' hb => h M' b (hE3.tr ((EqT.set (by omega)).tr hE)) hT' (fun z => by cases z))
      · rw [if_neg hw]
        simp only [cmP] at h
        rw [if_neg hw] at h
        have := hvw (wdI n t b (wdG n t 150 b))
        refine g_goto 21 dX10_compared_17 (by decide) ?_
        refine g_ist5_2 dX10_compared_21 (by decide) rfl ?_
        refine g_iload_n dX10_compared_22 rfl ?_
        refine g_if_ge_n 34 dX10_compared_23 (by decide) (by omega) ?_
        refine g_aload_n dX10_compared_34 rfl ?_
        refine g_aload_n dX10_compared_35 rfl ?_
        refine g_geti (j := 21) dX10_compared_36 gc10 rfl (by decide) rfl (by decide) fl_M_248 ?_
        try simp (disch := omega) only [e21, e20]
        refine g_if_ge 46 dX10_compared_39 (by decide) (fun c39 => ?_) (fun c39 => ?_)
        · exact absurd c39 (by decide)
        · refine g_iload_n dX10_compared_42 rfl ?_
          refine g_goto 50 dX10_compared_43 (by decide) ?_
          refine g_puti (j := 20) dX10_compared_50 gc10 rfl (by decide) rfl (by decide) fl_M_251 rfl (tyX10_ok 20 (by decide)) (by first | rfl | exact nar_bI _) rfl ?_
          refine SM_cmpA (q2 := .inl (wdG n t 150 b)) (hT.set w2) (fun M' b hE hT' hb => h M' b ((EqT.set (by omega)).tr hE) hT' hb)
/-! CONDITIONS in the reference: not, within, both, either -/
def mono (g : TS → TS) : Prop := ∀ q b, g q = .inl b → ∃ a, q = .inl a ∧ a ≤ b
theorem mono.comp {f g : TS → TS} (hf : mono f) (hg : mono g) : mono (fun q => f (g q)) := fun q b h => by
  obtain ⟨a, h1, h2⟩ := hf _ b h
  obtain ⟨a2, h3, h4⟩ := hg q a h1
  exact ⟨a2, h3, by omega⟩
theorem mono_tk {n : Nat} {t : Nat → Nat} {c : Nat} : mono (tkS n t c) := fun q b h => by
  cases q with
  | inl a =>
    refine ⟨a, rfl, ?_⟩
    simp only [tkS] at h
    split at h
    · cases h; omega
    · cases h; omega
  | inr f => cases h
theorem mono_mu {n : Nat} {t : Nat → Nat} {c : Nat} : mono (mu n t c) := fun q b h => by
  cases q with
  | inl a =>
    refine ⟨a, rfl, ?_⟩
    simp only [mu] at h
    split at h
    · cases h; omega
    · cases h
  | inr f => cases h
theorem nuG_ge {n : Nat} {t : Nat → Nat} : ∀ {k a v : Nat}, a ≤ (nuG n t k a v).1
  | 0, a, v => Nat.le_refl a
  | k + 1, a, v => by
    rw [nuG]
    split
    · have := nuG_ge (n := n) (t := t) (k := k) (a := a + 1) (v := v * 10 + (tb n t a - 48))
      omega
    · exact Nat.le_refl a
theorem wdG_ge {n : Nat} {t : Nat → Nat} : ∀ {k a : Nat}, a ≤ wdG n t k a
  | 0, a => Nat.le_refl a
  | k + 1, a => by
    rw [wdG]
    split
    · have := wdG_ge (n := n) (t := t) (k := k) (a := a + 1)
      omega
    · exact Nat.le_refl a
theorem mono_nu {n : Nat} {t : Nat → Nat} {lo hi : Nat} : mono (nuS n t lo hi) := fun q b h => by
  cases q with
  | inl a =>
    refine ⟨a, rfl, ?_⟩
    simp only [nuS] at h
    split at h
    · cases h
    · cases h; exact nuG_ge
  | inr f => cases h
theorem mono_cq {n : Nat} {t : Nat → Nat} {v : Int32} : mono (fun q => (cqP n t v q).1) := fun q b h => by
  unfold cqP at h
  dsimp only at h
  split at h
  · exact (mono_nu.comp mono_tk) q b h
  · split at h
    · exact (mono_nu.comp mono_tk) q b h
    · exact (mono_nu.comp mono_mu) q b h
theorem mono_cm {n : Nat} {t : Nat → Nat} {V : Nat → Int32} : mono (fun q => (cmP n t V q).1) := fun q b h => by
  cases q with
  | inr f => cases h
  | inl a =>
    refine ⟨a, rfl, ?_⟩
    simp only [cmP] at h
    split at h
    · cases h
    · obtain ⟨a2, h1, h2⟩ := mono_cq _ b h
      cases h1
      have := wdG_ge (n := n) (t := t) (k := 150) (a := a)
      omega
theorem mono_an {n : Nat} {t : Nat → Nat} {c : Nat} {cb : Bool → Bool → Bool} {fac : TS → TS × Bool} (hf : mono (fun q => (fac q).1)) : ∀ (k : Nat) (x : TS × Bool) (b : Nat), (anL n t c cb fac k x).1 = .inl b → ∃ a, x.1 = .inl a ∧ a ≤ b
  | 0, x, b, h => ⟨b, h, Nat.le_refl b⟩
  | k + 1, x, b, h => by
    rw [anL] at h
    split at h
    · obtain ⟨a1, h1, h2⟩ := mono_an hf k _ b h
      obtain ⟨a2, h3, h4⟩ := hf _ a1 h1
      obtain ⟨a3, h5, h6⟩ := mono_tk _ a2 h3
      exact ⟨a3, h5, by omega⟩
    · exact ⟨b, h, Nat.le_refl b⟩
theorem mono_bo {n : Nat} {t : Nat → Nat} {fac : TS → TS × Bool} (hf : mono (fun q => (fac q).1)) : mono (fun q => (boP n t fac q).1) := fun q b h => by
  obtain ⟨a, h1, h2⟩ := mono_an hf 150 _ b h
  obtain ⟨a2, h3, h4⟩ := hf q a h1
  exact ⟨a2, h3, by omega⟩
theorem mono_ei {n : Nat} {t : Nat → Nat} {fac : TS → TS × Bool} (hf : mono (fun q => (fac q).1)) : mono (fun q => (eiP n t fac q).1) := fun q b h => by
  obtain ⟨a, h1, h2⟩ := mono_an (mono_bo hf) 150 _ b h
  obtain ⟨a2, h3, h4⟩ := mono_bo hf q a h1
  exact ⟨a2, h3, by omega⟩
theorem mono_fa {n : Nat} {t : Nat → Nat} {V : Nat → Int32} : ∀ r, mono (fun q => (faP n t V r q).1)
  | 0 => mono_cm
  | r + 1 => fun q b h => by
    dsimp only at h
    rw [faP] at h
    dsimp only at h
    split at h
    · exact ((mono_fa r).comp mono_tk) q b h
    · split at h
      · exact (mono_mu.comp ((mono_ei (mono_fa r)).comp mono_tk)) q b h
      · exact mono_cm q b h
def RdM (dd A K u X : Nat) (d n : Nat) (t : Nat → Nat) (y : Me) (dep : Nat) (fac : TS → TS × Bool) : Prop := ∀ (M : Mm) (Q : Po) (q : TS), TM n t M q → VX dd A K u X M → M 57 26 = nI dep → (∀ M' b, EqT M M' → TM n t M' (fac q).1 → (okB (fac q).1 = true → b = (fac q).2) → Q M' (some (.int (bI b)))) → Call d y [.ref 57] M Q
theorem EqT.back {M M1 M3 : Mm} {v w : Int32} (h1 : EqT M M1) (h3 : EqT (mset M1 57 26 v) M3) (hw : w = M 57 26) : EqT M (mset M3 57 26 w) := fun k j hk => by
  by_cases z : k = 57 ∧ j = 26
  · obtain ⟨rfl, rfl⟩ := z
    rw [mset_at]
    exact hw
  · rw [mset_off z, h3 k j hk, mset_off z]
    exact h1 k j hk
theorem SM_both {dd A K u X : Nat} {d n : Nat} {t : Nat → Nat} {dep : Nat} {fac : TS → TS × Bool} (hm : mono (fun q => (fac q).1)) (hf : RdM dd A K u X (d + 2) n t mM_factor dep fac) : RdM dd A K u X (d + 3) n t mM_both dep (fun q => anL n t 38 and fac 150 (fac q)) := by
  intro M Q q hT hV h26 h
  dsimp only at h
  have hn := hT.1.1
  refine Call_of (m := mM_both) [some (.ref 57), none, none] rfl (fun G => Nat.le_of_ble_eq_true rfl) (fun G => rfl) ?_
  refine g_aload_n dX10_both_0 rfl ?_
  refine g_call0 dX10_both_1 clM_factor ml_M_314 gc10 rfl rfl (by decide) (Nat.le_of_ble_eq_true rfl) ?_
  refine hf M _ q hT hV h26 (fun M1 b hE1 hT1 hb => ?_)
  refine g_ist3_1 dX10_both_4 (by decide) rfl ?_
  suffices hloop : ∀ k x b M', (∀ a, x.1 = .inl a → n ≤ a + k) → EqT M M' → TM n t M' x.1 → (okB x.1 = true → b = x.2) → anL n t 38 and fac 150 (fac q) = anL n t 38 and fac k x → Go mM_both (d + 3) Q 5 [some (.ref 57), some (.int (bI b)), none] [] M' by
    exact hloop 150 (fac q) b M1 (fun a _ => by omega) hE1 hT1 hb rfl
  clear hT1 hb hE1 b M1
  have hdone : ∀ x b M', tk n t 38 x.1 = false → EqT M M' → TM n t M' x.1 → (okB x.1 = true → b = x.2) → anL n t 38 and fac 150 (fac q) = x → Go mM_both (d + 3) Q 5 [some (.ref 57), some (.int (bI b)), none] [] M' := by
    intro x b M' c hE hT1 hb hg
    rw [hg] at h
    refine g_aload_n dX10_both_5 rfl ?_
    refine g_bipush (nI 38) dX10_both_6 kb_38 ?_
    refine g_call1 dX10_both_8 clM_takes ml_M_257 gc10 rfl rfl (by decide) (Nat.le_of_ble_eq_true rfl) ?_
    refine SM_takes (c := 38) (by omega) hT1 (fun M2 hE2 hT2 => ?_)
    rw [tkS_f c] at hT2
    rw [c]
    refine g_if_eq_ff 36 dX10_both_11 (by decide) ?_
    refine g_iload_n dX10_both_36 rfl ?_
    refine g_ireturn dX10_both_37 rfl (by first | rfl | exact nar_bI _) ?_
    exact h M2 b (hE.tr hE2) hT2 hb
  intro k
  induction k with
  | zero =>
    intro x b M' hk hE hT1 hb hg
    refine hdone x b M' ?_ hE hT1 hb hg
    cases hx : x.1 with
    | inr f => rfl
    | inl a =>
      have := hk a hx
      refine decide_eq_false (fun z => ?_)
      have := tb_lt z (by omega)
      omega
  | succ k ih =>
    intro x b M' hk hE hT1 hb hg
    by_cases c : tk n t 38 x.1 = true
    · have hg := hg.trans (show anL n t 38 and fac (k + 1) x = anL n t 38 and fac k ((fac (tkS n t 38 x.1)).1, and x.2 (fac (tkS n t 38 x.1)).2) by rw [anL, if_pos c])
      have hbx := hb (tk_ok c)
      refine g_aload_n dX10_both_5 rfl ?_
      refine g_bipush (nI 38) dX10_both_6 kb_38 ?_
      refine g_call1 dX10_both_8 clM_takes ml_M_257 gc10 rfl rfl (by decide) (Nat.le_of_ble_eq_true rfl) ?_
      refine SM_takes (c := 38) (by omega) hT1 (fun M2 hE2 hT2 => ?_)
      rw [c]
      refine g_if_eq_tt 36 dX10_both_11 (by decide) ?_
      refine g_aload_n dX10_both_14 rfl ?_
      refine g_call0 dX10_both_15 clM_factor ml_M_314 gc10 rfl rfl (by decide) (Nat.le_of_ble_eq_true rfl) ?_
      refine hf M2 _ _ hT2 (hV.eqT (hE.tr hE2)) (by rw [(hE.tr hE2) 57 26 (by omega)]; exact h26) (fun M3 b2 hE3 hT3 hb2 => ?_)
      have hn2 : ∀ b3, (okB (fac (tkS n t 38 x.1)).1 = true → b3 = and x.2 (fac (tkS n t 38 x.1)).2) → Go mM_both (d + 3) Q 5 [some (.ref 57), some (.int (bI b3)), some (.int (bI b2))] [] M3 := by
        intro b3 hb3
        refine Go_sub [some (.ref 57), some (.int (bI b3)), none] (by simp [subL]) (ih ((fac (tkS n t 38 x.1)).1, and x.2 (fac (tkS n t 38 x.1)).2) b3 M3 (fun a ha => ?_) (hE.tr (hE2.tr hE3)) hT3 hb3 hg)
        obtain ⟨a1, h1, h2⟩ := hm _ a ha
        obtain ⟨a0, h3, h4, h5, h6⟩ := tkS_t c (by omega)
        rw [h4] at h1
        cases h1
        have := hk a0 h3
        omega
      rw [← hbx] at hn2
      refine g_ist3_2 dX10_both_18 (by decide) rfl ?_
      refine g_iload_n dX10_both_19 rfl ?_
      refine g_if_eq_b 31 dX10_both_20 (by decide) (fun c20 => ?_) (fun c20 => ?_)
      · refine g_iconst (nI 0) dX10_both_31 ki_0 ?_
        refine g_ist3_1 dX10_both_32 (by decide) rfl ?_
        refine g_goto 5 dX10_both_33 (by decide) ?_
        exact hn2 false (fun hok => by rw [c20]; simp)
      · skip
        refine g_iload_n dX10_both_23 rfl ?_
        refine g_if_eq_b 31 dX10_both_24 (by decide) (fun c24 => ?_) (fun c24 => ?_)
        · refine g_iconst (nI 0) dX10_both_31 ki_0 ?_
          refine g_ist3_1 dX10_both_32 (by decide) rfl ?_
          refine g_goto 5 dX10_both_33 (by decide) ?_
          exact hn2 false (fun hok => by rw [← hb2 hok, c20, c24]; rfl)
        · refine g_iconst (nI 1) dX10_both_27 ki_1 ?_
          refine g_goto 32 dX10_both_28 (by decide) ?_
          refine g_ist3_1 dX10_both_32 (by decide) rfl ?_
          refine g_goto 5 dX10_both_33 (by decide) ?_
          exact hn2 true (fun hok => by rw [← hb2 hok, c20, c24]; rfl)
    · exact hdone x b M' (Bool.eq_false_iff.mpr c) hE hT1 hb (hg.trans (show anL n t 38 and fac (k + 1) x = x by rw [anL, if_neg c]))
theorem SM_either {dd A K u X : Nat} {d n : Nat} {t : Nat → Nat} {dep : Nat} {fac : TS → TS × Bool} (hm : mono (fun q => (fac q).1)) (hf : RdM dd A K u X (d + 2) n t mM_both dep fac) : RdM dd A K u X (d + 3) n t mM_either dep (fun q => anL n t 124 or fac 150 (fac q)) := by
  intro M Q q hT hV h26 h
  dsimp only at h
  have hn := hT.1.1
  refine Call_of (m := mM_either) [some (.ref 57), none, none] rfl (fun G => Nat.le_of_ble_eq_true rfl) (fun G => rfl) ?_
  refine g_aload_n dX10_either_0 rfl ?_
  refine g_call0 dX10_either_1 clM_both ml_M_324 gc10 rfl rfl (by decide) (Nat.le_of_ble_eq_true rfl) ?_
  refine hf M _ q hT hV h26 (fun M1 b hE1 hT1 hb => ?_)
  refine g_ist3_1 dX10_either_4 (by decide) rfl ?_
  suffices hloop : ∀ k x b M', (∀ a, x.1 = .inl a → n ≤ a + k) → EqT M M' → TM n t M' x.1 → (okB x.1 = true → b = x.2) → anL n t 124 or fac 150 (fac q) = anL n t 124 or fac k x → Go mM_either (d + 3) Q 5 [some (.ref 57), some (.int (bI b)), none] [] M' by
    exact hloop 150 (fac q) b M1 (fun a _ => by omega) hE1 hT1 hb rfl
  clear hT1 hb hE1 b M1
  have hdone : ∀ x b M', tk n t 124 x.1 = false → EqT M M' → TM n t M' x.1 → (okB x.1 = true → b = x.2) → anL n t 124 or fac 150 (fac q) = x → Go mM_either (d + 3) Q 5 [some (.ref 57), some (.int (bI b)), none] [] M' := by
    intro x b M' c hE hT1 hb hg
    rw [hg] at h
    refine g_aload_n dX10_either_5 rfl ?_
    refine g_bipush (nI 124) dX10_either_6 kb_124 ?_
    refine g_call1 dX10_either_8 clM_takes ml_M_257 gc10 rfl rfl (by decide) (Nat.le_of_ble_eq_true rfl) ?_
    refine SM_takes (c := 124) (by omega) hT1 (fun M2 hE2 hT2 => ?_)
    rw [tkS_f c] at hT2
    rw [c]
    refine g_if_eq_ff 36 dX10_either_11 (by decide) ?_
    refine g_iload_n dX10_either_36 rfl ?_
    refine g_ireturn dX10_either_37 rfl (by first | rfl | exact nar_bI _) ?_
    exact h M2 b (hE.tr hE2) hT2 hb
  intro k
  induction k with
  | zero =>
    intro x b M' hk hE hT1 hb hg
    refine hdone x b M' ?_ hE hT1 hb hg
    cases hx : x.1 with
    | inr f => rfl
    | inl a =>
      have := hk a hx
      refine decide_eq_false (fun z => ?_)
      have := tb_lt z (by omega)
      omega
  | succ k ih =>
    intro x b M' hk hE hT1 hb hg
    by_cases c : tk n t 124 x.1 = true
    · have hg := hg.trans (show anL n t 124 or fac (k + 1) x = anL n t 124 or fac k ((fac (tkS n t 124 x.1)).1, or x.2 (fac (tkS n t 124 x.1)).2) by rw [anL, if_pos c])
      have hbx := hb (tk_ok c)
      refine g_aload_n dX10_either_5 rfl ?_
      refine g_bipush (nI 124) dX10_either_6 kb_124 ?_
      refine g_call1 dX10_either_8 clM_takes ml_M_257 gc10 rfl rfl (by decide) (Nat.le_of_ble_eq_true rfl) ?_
      refine SM_takes (c := 124) (by omega) hT1 (fun M2 hE2 hT2 => ?_)
      rw [c]
      refine g_if_eq_tt 36 dX10_either_11 (by decide) ?_
      refine g_aload_n dX10_either_14 rfl ?_
      refine g_call0 dX10_either_15 clM_both ml_M_324 gc10 rfl rfl (by decide) (Nat.le_of_ble_eq_true rfl) ?_
      refine hf M2 _ _ hT2 (hV.eqT (hE.tr hE2)) (by rw [(hE.tr hE2) 57 26 (by omega)]; exact h26) (fun M3 b2 hE3 hT3 hb2 => ?_)
      have hn2 : ∀ b3, (okB (fac (tkS n t 124 x.1)).1 = true → b3 = or x.2 (fac (tkS n t 124 x.1)).2) → Go mM_either (d + 3) Q 5 [some (.ref 57), some (.int (bI b3)), some (.int (bI b2))] [] M3 := by
        intro b3 hb3
        refine Go_sub [some (.ref 57), some (.int (bI b3)), none] (by simp [subL]) (ih ((fac (tkS n t 124 x.1)).1, or x.2 (fac (tkS n t 124 x.1)).2) b3 M3 (fun a ha => ?_) (hE.tr (hE2.tr hE3)) hT3 hb3 hg)
        obtain ⟨a1, h1, h2⟩ := hm _ a ha
        obtain ⟨a0, h3, h4, h5, h6⟩ := tkS_t c (by omega)
        rw [h4] at h1
        cases h1
        have := hk a0 h3
        omega
      rw [← hbx] at hn2
      refine g_ist3_2 dX10_either_18 (by decide) rfl ?_
      refine g_iload_n dX10_either_19 rfl ?_
      refine g_if_ne_b 27 dX10_either_20 (by decide) (fun c20 => ?_) (fun c20 => ?_)
      · refine g_iconst (nI 1) dX10_either_27 ki_1 ?_
        refine g_goto 32 dX10_either_28 (by decide) ?_
        refine g_ist3_1 dX10_either_32 (by decide) rfl ?_
        refine g_goto 5 dX10_either_33 (by decide) ?_
        exact hn2 true (fun hok => by rw [c20]; simp)
      · skip
        refine g_iload_n dX10_either_23 rfl ?_
        refine g_if_eq_b 31 dX10_either_24 (by decide) (fun c24 => ?_) (fun c24 => ?_)
        · refine g_iconst (nI 0) dX10_either_31 ki_0 ?_
          refine g_ist3_1 dX10_either_32 (by decide) rfl ?_
          refine g_goto 5 dX10_either_33 (by decide) ?_
          exact hn2 false (fun hok => by rw [← hb2 hok, c20, c24]; rfl)
        · refine g_iconst (nI 1) dX10_either_27 ki_1 ?_
          refine g_goto 32 dX10_either_28 (by decide) ?_
          refine g_ist3_1 dX10_either_32 (by decide) rfl ?_
          refine g_goto 5 dX10_either_33 (by decide) ?_
          exact hn2 true (fun hok => by rw [← hb2 hok, c20, c24]; rfl)
    · exact hdone x b M' (Bool.eq_false_iff.mpr c) hE hT1 hb (hg.trans (show anL n t 124 or fac (k + 1) x = x by rw [anL, if_neg c]))
theorem SM_one {dd A K u X n : Nat} {t : Nat → Nat} : ∀ r, r ≤ 4 → ∀ d, RdM dd A K u X (d + 3 * r + 8) n t mM_factor (4 - r) (faP n t (fun w => nI (vwF A K u X w)) r) := by
  intro r
  induction r with
  | zero =>
    intro _ d M Q q hT hV h26 h
    have h26 : M 57 26 = nI 4 := h26
    refine Call_of (m := mM_factor) [some (.ref 57), none] rfl (fun G => Nat.le_of_ble_eq_true rfl) (fun G => rfl) ?_
    refine g_aload_n dX10_factor_0 rfl ?_
    refine g_geti (j := 26) dX10_factor_1 gc10 rfl (by decide) rfl (by decide) fl_M_311 ?_
    try simp (disch := omega) only [h26]
    refine g_iconst (nI 4) dX10_factor_4 ki_4 ?_
    refine g_icmp_ge_n 52 dX10_factor_5 (by decide) (by omega) (by omega) (fun c5 => ?_) (fun c5 => ?_)
    · refine g_aload_n dX10_factor_52 rfl ?_
      refine g_geti (j := 26) dX10_factor_53 gc10 rfl (by decide) rfl (by decide) fl_M_311 ?_
      try simp (disch := omega) only [h26]
      refine g_iconst (nI 4) dX10_factor_56 ki_4 ?_
      refine g_icmp_ge_n 102 dX10_factor_57 (by decide) (by omega) (by omega) (fun c57 => ?_) (fun c57 => ?_)
      · refine g_aload_n dX10_factor_102 rfl ?_
        refine g_call0 dX10_factor_103 clM_compared ml_M_321 gc10 rfl rfl (by decide) (Nat.le_of_ble_eq_true rfl) ?_
        refine SM_compared hT hV (fun M' b hE hT' hb => ?_)
        refine g_ireturn dX10_factor_106 rfl (by first | rfl | exact nar_bI _) ?_
        exact h M' b hE hT' hb
      · exact absurd c57 (by omega)
    · exact absurd c5 (by omega)
  | succ r ih =>
    intro hr4 d M Q q hT hV h26 h
    have hi := ih (by omega)
    have h1 : RdM dd A K u X (d + 3 * r + 10) n t mM_factor (4 - r) (faP n t (fun w => nI (vwF A K u X w)) r) := by
      have := hi (d + 2)
      rw [show d + 2 + 3 * r + 8 = d + 3 * r + 10 by omega] at this
      exact this
    have h2 : RdM dd A K u X (d + 3 * r + 10) n t mM_either (4 - r) (eiP n t (faP n t (fun w => nI (vwF A K u X w)) r)) := by
      have := SM_either (mono_bo (mono_fa r)) (SM_both (mono_fa r) (hi d))
      exact this
    rw [show d + 3 * (r + 1) + 8 = d + 3 * r + 10 + 1 by omega]
    generalize hdp : 4 - (r + 1) = dp at h26
    rw [faP] at h
    dsimp only at h
    have h26' : ∀ M', EqT M M' → M' 57 26 = nI dp := fun M' hE => by rw [hE 57 26 (by omega)]; exact h26
    have hcmp : ∀ M3, EqT M M3 → TM n t M3 q → tk n t 33 q = false → tk n t 40 q = false → Go mM_factor (d + 3 * r + 10 + 1) Q 102 [some (.ref 57), none] [] M3 := by
      intro M3 hE3 hT3 c1 c2
      rw [if_neg (by rw [c1]; decide), if_neg (by rw [c2]; decide)] at h
      refine g_aload_n dX10_factor_102 rfl ?_
      refine g_call0 dX10_factor_103 clM_compared ml_M_321 gc10 rfl rfl (by decide) (Nat.le_of_ble_eq_true rfl) ?_
      refine SM_compared (d := d + 3 * r + 6) hT3 (hV.eqT hE3) (fun M' b hE hT' hb => ?_)
      refine g_ireturn dX10_factor_106 rfl (by first | rfl | exact nar_bI _) ?_
      exact h M' b (hE3.tr hE) hT' hb
    have hmid : ∀ M3, EqT M M3 → TM n t M3 q → tk n t 33 q = false → Go mM_factor (d + 3 * r + 10 + 1) Q 52 [some (.ref 57), none] [] M3 := by
      intro M3 hE3 hT3 c1
      have h26 := h26' M3 hE3
      refine g_aload_n dX10_factor_52 rfl ?_
      refine g_geti (j := 26) dX10_factor_53 gc10 rfl (by decide) rfl (by decide) fl_M_311 ?_
      try simp (disch := omega) only [h26]
      refine g_iconst (nI 4) dX10_factor_56 ki_4 ?_
      refine g_icmp_ge_n 102 dX10_factor_57 (by decide) (by omega) (by omega) (fun c57 => ?_) (fun c57 => ?_)
      · exact absurd c57 (by omega)
      · refine g_aload_n dX10_factor_60 rfl ?_
        refine g_bipush (nI 40) dX10_factor_61 kb_40 ?_
        refine g_call1 dX10_factor_63 clM_takes ml_M_257 gc10 rfl rfl (by decide) (Nat.le_of_ble_eq_true rfl) ?_
        refine SM_takes (c := 40) (by omega) hT3 (fun M4 hE4 hT4 => ?_)
        have h26 := h26' M4 (hE3.tr hE4)
        by_cases c2 : tk n t 40 q = true
        · rw [if_neg (by rw [c1]; decide), if_pos c2] at h
          dsimp only at h
          rw [c2]
          refine g_if_eq_tt 102 dX10_factor_66 (by decide) ?_
          refine g_aload_n dX10_factor_69 rfl ?_
          refine g_dup dX10_factor_70 rfl ?_
          refine g_geti (j := 26) dX10_factor_71 gc10 rfl (by decide) rfl (by decide) fl_M_311 ?_
          try simp (disch := omega) only [h26]
          refine g_iconst (nI 1) dX10_factor_74 ki_1 ?_
          first | refine g_iadd_n dX10_factor_75 ?_ | refine g_iadd dX10_factor_75 ?_
          refine g_puti (j := 26) dX10_factor_76 gc10 rfl (by decide) rfl (by decide) fl_M_311 rfl (tyX10_ok 26 (by decide)) (by first | rfl | exact nar_bI _) rfl ?_
          refine g_aload_n dX10_factor_79 rfl ?_
          refine g_call0 dX10_factor_80 clM_either ml_M_318 gc10 rfl rfl (by decide) (Nat.le_of_ble_eq_true rfl) ?_
          rw [show dp + 1 = 4 - r by omega]
          refine h2 _ _ _ (hT4.off (mset_ne (by decide)) (fun j hj => mset_off (by omega))) ((hV.eqT (hE3.tr hE4)).of (mset_ne (by decide)) (mset_off (by omega))) (mset_at _ _ _ _) (fun M5 b hE5 hT5 hb => ?_)
          refine g_ist2_1 dX10_factor_83 (by decide) rfl ?_
          refine g_aload_n dX10_factor_84 rfl ?_
          refine g_bipush (nI 41) dX10_factor_85 kb_41 ?_
          refine g_call1 dX10_factor_87 clM_must ml_M_276 gc10 rfl rfl (by decide) (Nat.le_of_ble_eq_true rfl) ?_
          refine SM_must (c := 41) (by omega) hT5 (fun M6 hE6 hT6 => ?_)
          have hE7 := hE5.tr hE6
          have e26 : M6 57 26 = nI (4 - r) := by rw [hE7 57 26 (by omega), mset_at]
          refine g_aload_n dX10_factor_90 rfl ?_
          refine g_dup dX10_factor_91 rfl ?_
          refine g_geti (j := 26) dX10_factor_92 gc10 rfl (by decide) rfl (by decide) fl_M_311 ?_
          try simp (disch := omega) only [e26]
          refine g_iconst (nI 1) dX10_factor_95 ki_1 ?_
          first | refine g_isub_n dX10_factor_96 (by omega) ?_ | refine g_isub dX10_factor_96 ?_
          refine g_puti (j := 26) dX10_factor_97 gc10 rfl (by decide) rfl (by decide) fl_M_311 rfl (tyX10_ok 26 (by decide)) (by first | rfl | exact nar_bI _) rfl ?_
          refine g_iload_n dX10_factor_100 rfl ?_
          refine g_ireturn dX10_factor_101 rfl (by first | rfl | exact nar_bI _) ?_
          refine h _ b (EqT.back (hE3.tr hE4) hE7 ?_) (hT6.off (mset_ne (by decide)) (fun j hj => mset_off (by omega))) (fun hok => hb (ok_mu hok))
          rw [h26' M EqT.rf]
          exact congrArg nI (by omega)
        · have c2 := Bool.eq_false_iff.mpr c2
          rw [tkS_f c2] at hT4
          rw [c2]
          refine g_if_eq_ff 102 dX10_factor_66 (by decide) ?_
          exact hcmp M4 (hE3.tr hE4) hT4 c1 c2
    refine Call_of (m := mM_factor) [some (.ref 57), none] rfl (fun G => Nat.le_of_ble_eq_true rfl) (fun G => rfl) ?_
    refine g_aload_n dX10_factor_0 rfl ?_
    refine g_geti (j := 26) dX10_factor_1 gc10 rfl (by decide) rfl (by decide) fl_M_311 ?_
    try simp (disch := omega) only [h26]
    refine g_iconst (nI 4) dX10_factor_4 ki_4 ?_
    refine g_icmp_ge_n 52 dX10_factor_5 (by decide) (by omega) (by omega) (fun c5 => ?_) (fun c5 => ?_)
    · exact absurd c5 (by omega)
    · refine g_aload_n dX10_factor_8 rfl ?_
      refine g_bipush (nI 33) dX10_factor_9 kb_33 ?_
      refine g_call1 dX10_factor_11 clM_takes ml_M_257 gc10 rfl rfl (by decide) (Nat.le_of_ble_eq_true rfl) ?_
      refine SM_takes (c := 33) (by omega) hT (fun M4 hE4 hT4 => ?_)
      have h26 := h26' M4 hE4
      by_cases c1 : tk n t 33 q = true
      · rw [if_pos c1] at h
        dsimp only at h
        rw [c1]
        refine g_if_eq_tt 52 dX10_factor_14 (by decide) ?_
        refine g_aload_n dX10_factor_17 rfl ?_
        refine g_dup dX10_factor_18 rfl ?_
        refine g_geti (j := 26) dX10_factor_19 gc10 rfl (by decide) rfl (by decide) fl_M_311 ?_
        try simp (disch := omega) only [h26]
        refine g_iconst (nI 1) dX10_factor_22 ki_1 ?_
        first | refine g_iadd_n dX10_factor_23 ?_ | refine g_iadd dX10_factor_23 ?_
        refine g_puti (j := 26) dX10_factor_24 gc10 rfl (by decide) rfl (by decide) fl_M_311 rfl (tyX10_ok 26 (by decide)) (by first | rfl | exact nar_bI _) rfl ?_
        refine g_aload_n dX10_factor_27 rfl ?_
        refine g_call0 dX10_factor_28 clM_factor ml_M_314 gc10 rfl rfl (by decide) (Nat.le_of_ble_eq_true rfl) ?_
        rw [show dp + 1 = 4 - r by omega]
        refine h1 _ _ _ (hT4.off (mset_ne (by decide)) (fun j hj => mset_off (by omega))) ((hV.eqT hE4).of (mset_ne (by decide)) (mset_off (by omega))) (mset_at _ _ _ _) (fun M5 b hE5 hT5 hb => ?_)
        have e26 : M5 57 26 = nI (4 - r) := by rw [hE5 57 26 (by omega), mset_at]
        have hE8 : EqT M (mset M5 57 26 (nI (4 - r - 1))) := EqT.back hE4 hE5 (by rw [h26' M EqT.rf]; exact congrArg nI (by omega))
        have hT8 : TM n t (mset M5 57 26 (nI (4 - r - 1))) (faP n t (fun w => nI (vwF A K u X w)) r (tkS n t 33 q)).1 := hT5.off (mset_ne (by decide)) (fun j hj => mset_off (by omega))
        refine g_ist2_1 dX10_factor_31 (by decide) rfl ?_
        refine g_aload_n dX10_factor_32 rfl ?_
        refine g_dup dX10_factor_33 rfl ?_
        refine g_geti (j := 26) dX10_factor_34 gc10 rfl (by decide) rfl (by decide) fl_M_311 ?_
        try simp (disch := omega) only [e26]
        refine g_iconst (nI 1) dX10_factor_37 ki_1 ?_
        first | refine g_isub_n dX10_factor_38 (by omega) ?_ | refine g_isub dX10_factor_38 ?_
        refine g_puti (j := 26) dX10_factor_39 gc10 rfl (by decide) rfl (by decide) fl_M_311 rfl (tyX10_ok 26 (by decide)) (by first | rfl | exact nar_bI _) rfl ?_
        refine g_iload_n dX10_factor_42 rfl ?_
        refine g_if_ne_b 50 dX10_factor_43 (by decide) (fun c43 => ?_) (fun c43 => ?_)
        · refine g_iconst (nI 0) dX10_factor_50 ki_0 ?_
          refine g_ireturn dX10_factor_51 rfl (by first | rfl | exact nar_bI _) ?_
          exact h _ false hE8 hT8 (fun hok => by rw [← hb hok, c43]; rfl)
        · refine g_iconst (nI 1) dX10_factor_46 ki_1 ?_
          refine g_goto 51 dX10_factor_47 (by decide) ?_
          refine g_ireturn dX10_factor_51 rfl (by first | rfl | exact nar_bI _) ?_
          exact h _ true hE8 hT8 (fun hok => by rw [← hb hok, c43]; rfl)
      · have c1 := Bool.eq_false_iff.mpr c1
        rw [tkS_f c1] at hT4
        rw [c1]
        refine g_if_eq_ff 52 dX10_factor_14 (by decide) ?_
        exact hmid M4 hE4 hT4 c1
