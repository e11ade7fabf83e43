/-! disliked, heaviest, near, close -/
theorem sumN_bd {f : Nat → Nat} {c : Nat} : ∀ {n : Nat}, (∀ x, x < n → f x ≤ c) → sumN f n ≤ c * n
  | 0, _ => Nat.zero_le _
  | n + 1, h => by
    rw [sumN, Nat.mul_succ]
    have h1 := sumN_bd (n := n) (fun x hx => h x (by omega))
    have h2 := h n (by omega)
    omega
theorem dlv_le {S : BS} (hW : WF S) {q d : Nat} (hd : d < 24) : dlv S q d ≤ 9 := by
  have hw := hW.np
  unfold dlv
  split
  · exact hW.dl (by omega) hd
  · omega
theorem ho_np {S : BS} (hW : WF S) (hH : HM S) {d : Nat} (hd : d < S 1 0 0) (h8 : S 12 d 0 < 8) : S 12 d 0 < S 0 0 0 := by
  rcases Nat.lt_or_ge (S 12 d 0) (S 0 0 0) with z | z
  · exact z
  · have h1 := hH.here hd h8
    rw [hW.out z] at h1
    cases h1
theorem burN_le {S : BS} (hW : WF S) {p : Nat} (hp : p < 8) : burN S p ≤ 30000 := by
  have h : ∀ k, k < 4 → bw k * (S 5 p k + heldN S p k) ≤ 5 * 1023 := fun k hk => by
    have h1 := hW.ps hp hk
    have h2 := heldF_le S (fun d => S 12 d 0) p k
    have h3 := hW.nd
    have h4 : heldN S p k ≤ 24 := by unfold heldN; omega
    have h5 : bw k ≤ 5 := by
      match k, hk with
      | 0, _ => decide
      | 1, _ => decide
      | 2, _ => decide
      | 3, _ => decide
    exact Nat.mul_le_mul h5 (by omega)
  have := sumN_bd (n := 4) h
  unfold burN
  omega
def f_disliked (S : BS) : Int32 × BS := (nI (sumN (fun d => dlv S (S 12 d 0) d) (S 1 0 0)), S)
theorem SF_disliked (M : Mm) (S : BS) (Q : Po) (hB : BK M S) (hH : HM S) (h : ∀ M', FrC M M' → BK M' (f_disliked S).2 → Q M' (some (.int (f_disliked S).1))) : Call 60 mF_disliked [.ref 0] M Q := by
  have hw := hB.wf.nd
  have h2 := h M FrC.rf hB
  unfold f_disliked at h2
  refine Call_of (m := mF_disliked) [some (.ref 0), none, none] rfl (fun G => Nat.le_of_ble_eq_true rfl) (fun G => rfl) ?_
  refine g_iconst (nI 0) dX9_disliked_0 ki_0 ?_
  refine g_ist3_1 dX9_disliked_1 (by decide) rfl ?_
  refine g_iconst (nI 0) dX9_disliked_2 ki_0 ?_
  refine g_ist3_2 dX9_disliked_3 (by decide) rfl ?_
  refine loop_up (P := fun i => Go mF_disliked 60 Q 4 [some (.ref 0), some (.int (nI (sumN (fun d => dlv S (S 12 d 0) d) i))), some (.int (nI i))] [] M) (S 1 0 0) ?_ 0 (Nat.zero_le _)
  intro i hi ih
  refine g_iload_n dX9_disliked_4 rfl ?_
  refine g_aload_n dX9_disliked_5 rfl ?_
  refine g_getr (j := 0) dX9_disliked_6 gc9 rfl (by decide) rfl (by decide) fl_F_13 ?_
  refine g_geti (j := 1) dX9_disliked_9 gc0 rfl (by decide) rfl (by decide) fl_F_164 ?_
  try simp (disch := omega) only [hB.nd]
  refine g_icmp_ge_n 40 dX9_disliked_12 (by decide) (by omega) (by omega) (fun c12 => ?_) (fun c12 => ?_)
  · refine g_iload_n dX9_disliked_40 rfl ?_
    refine g_ireturn dX9_disliked_41 rfl (by first | rfl | exact nar_bI _) ?_
    rw [show i = S 1 0 0 by omega]; exact h2
  · have hd := hB.wf.dk (d := i) (by omega)
    have hs := sumN_bd (f := fun d => dlv S (S 12 d 0) d) (c := 9) (n := i) (fun x hx => dlv_le hB.wf (by omega))
    have hs2 := dlv_le hB.wf (q := S 12 i 0) (d := i) (by omega)
    refine g_iload_n dX9_disliked_15 rfl ?_
    refine g_aload_n dX9_disliked_16 rfl ?_
    refine g_getr (j := 0) dX9_disliked_17 gc9 rfl (by decide) rfl (by decide) fl_F_13 ?_
    refine g_aload_n dX9_disliked_20 rfl ?_
    refine g_getr (j := 0) dX9_disliked_21 gc9 rfl (by decide) rfl (by decide) fl_F_13 ?_
    refine g_iload_n dX9_disliked_24 rfl ?_
    refine g_call1 dX9_disliked_25 clB_holderOf ml_F_185 gc0 rfl rfl (by decide) (Nat.le_of_ble_eq_true rfl) ?_
    refine SB_holderOf hB (by omega) ?_
    refine g_iload_n dX9_disliked_28 rfl ?_
    refine g_call2 dX9_disliked_29 clB_dislikeOf ml_F_203 gc0 rfl rfl (by decide) (Nat.le_of_ble_eq_true rfl) ?_
    refine SB_dislikeOf hB hd.2.2 (by omega) ?_
    first | refine g_iadd_n dX9_disliked_32 ?_ | refine g_iadd dX9_disliked_32 ?_
    refine g_ist3_1 dX9_disliked_33 (by decide) rfl ?_
    first | refine g_incn3_2 dX9_disliked_34 ki_1 (by decide) rfl ?_ | refine g_incg3_2 (nI 1) dX9_disliked_34 ki_1 (by decide) rfl ?_
    refine g_goto 4 dX9_disliked_37 (by decide) ?_
    exact ih (by omega)
theorem SM_dislikeOf {d : Nat} {M : Mm} {S : BS} {Q : Po} (hM : MK (M 58) S) {p e : Nat} (hp : p < S 0 0 0) (he : e < S 1 0 0) (h : Q M (some (.int (nI (S 13 p e))))) : Call (d + 1) mM_dislikeOf [.ref 57, .int (nI p), .int (nI e)] M Q := by
  have hw := hM.wf.np
  have hw2 := hM.wf.nd
  refine Call_of (m := mM_dislikeOf) [some (.ref 57), some (.int (nI p)), some (.int (nI e))] rfl (fun G => Nat.le_of_ble_eq_true rfl) (fun G => rfl) ?_
  refine g_aload_n dX10_dislikeOf_0 rfl ?_
  refine g_getr (j := 0) dX10_dislikeOf_1 gc10 rfl (by decide) rfl (by decide) fl_M_9 ?_
  refine g_sipush (nI 323) dX10_dislikeOf_4 ks_323 ?_
  refine g_bipush (nI 24) dX10_dislikeOf_7 kb_24 ?_
  refine g_iload_n dX10_dislikeOf_9 rfl ?_
  first | refine g_imul_n dX10_dislikeOf_10 ?_ | refine g_imul dX10_dislikeOf_10 ?_
  first | refine g_iadd_n dX10_dislikeOf_11 ?_ | refine g_iadd dX10_dislikeOf_11 ?_
  refine g_iload_n dX10_dislikeOf_12 rfl ?_
  first | refine g_iadd_n dX10_dislikeOf_13 ?_ | refine g_iadd dX10_dislikeOf_13 ?_
  refine g_iald_n dX10_dislikeOf_14 (by first | rfl | assumption) (by first | decide | assumption) (by omega) (by omega) ?_
  try simp (disch := omega) only [hM.dl]
  refine g_ireturn dX10_dislikeOf_15 rfl (by first | rfl | exact nar_bI _) ?_
  exact h
theorem SM_disliked (M : Mm) (S : BS) (Q : Po) (hM : MK (M 58) S) (hC : MC M) (hH : HM S) (h : ∀ M', FrM M M' → MK (M' 58) (f_disliked S).2 → Q M' (some (.int (f_disliked S).1))) : Call 60 mM_disliked [.ref 57] M Q := by
  have hw := hM.wf.nd
  have hw2 := hM.wf.np
  have h2 := h M FrM.rf hM
  unfold f_disliked at h2
  refine Call_of (m := mM_disliked) [some (.ref 57), none, none] rfl (fun G => Nat.le_of_ble_eq_true rfl) (fun G => rfl) ?_
  refine g_iconst (nI 0) dX10_disliked_0 ki_0 ?_
  refine g_ist3_1 dX10_disliked_1 (by decide) rfl ?_
  refine g_iconst (nI 0) dX10_disliked_2 ki_0 ?_
  refine g_ist3_2 dX10_disliked_3 (by decide) rfl ?_
  refine loop_up (P := fun i => Go mM_disliked 60 Q 4 [some (.ref 57), some (.int (nI (sumN (fun d => dlv S (S 12 d 0) d) i))), some (.int (nI i))] [] M) (S 1 0 0) ?_ 0 (Nat.zero_le _)
  intro i hi ih
  refine g_iload_n dX10_disliked_4 rfl ?_
  refine g_aload_n dX10_disliked_5 rfl ?_
  refine g_getr (j := 0) dX10_disliked_6 gc10 rfl (by decide) rfl (by decide) fl_M_9 ?_
  refine g_iconst (nI 2) dX10_disliked_9 ki_2 ?_
  refine g_iald_n dX10_disliked_10 (by first | rfl | assumption) (by first | decide | assumption) (by omega) (by omega) ?_
  try simp (disch := omega) only [hM.nd]
  refine g_icmp_ge_n 45 dX10_disliked_11 (by decide) (by omega) (by omega) (fun c11 => ?_) (fun c11 => ?_)
  · refine g_iload_n dX10_disliked_45 rfl ?_
    refine g_ireturn dX10_disliked_46 rfl (by first | rfl | exact nar_bI _) ?_
    rw [show i = S 1 0 0 by omega]; exact h2
  · have hd := hM.wf.dk (d := i) (by omega)
    have hs := sumN_bd (f := fun d => dlv S (S 12 d 0) d) (c := 9) (n := i) (fun x hx => dlv_le hM.wf (by omega))
    have hs2 := dlv_le hM.wf (q := S 12 i 0) (d := i) (by omega)
    have ih := ih (by omega)
    rw [sumN] at ih
    refine g_iload_n dX10_disliked_14 rfl ?_
    refine g_aload_n dX10_disliked_15 rfl ?_
    refine g_iload_n dX10_disliked_16 rfl ?_
    refine g_call1 dX10_disliked_17 clM_holder ml_M_78 gc10 rfl rfl (by decide) (Nat.le_of_ble_eq_true rfl) ?_
    refine SM_holder hM (by omega) ?_
    refine g_if_lt 36 dX10_disliked_20 (by decide) (fun c20 => ?_) (fun c20 => ?_)
    · rw [hv_lt hd.2.2] at c20
      have e0 : dlv S (S 12 i 0) i = 0 := by unfold dlv; rw [if_neg (by omega)]
      rw [e0] at ih
      refine g_iconst (nI 0) dX10_disliked_36 ki_0 ?_
      first | refine g_iadd_n dX10_disliked_37 ?_ | refine g_iadd dX10_disliked_37 ?_
      refine g_ist3_1 dX10_disliked_38 (by decide) rfl ?_
      first | refine g_incn3_2 dX10_disliked_39 ki_1 (by decide) rfl ?_ | refine g_incg3_2 (nI 1) dX10_disliked_39 ki_1 (by decide) rfl ?_
      refine g_goto 4 dX10_disliked_42 (by decide) ?_
      exact ih
    · rw [hv_lt hd.2.2] at c20
      have hn := ho_np hM.wf hH (d := i) (by omega) (by omega)
      have e0 : dlv S (S 12 i 0) i = S 13 ((S 12 i 0)) i := by unfold dlv; rw [if_pos hn]
      rw [e0] at ih hs2
      refine g_aload_n dX10_disliked_23 rfl ?_
      refine g_aload_n dX10_disliked_24 rfl ?_
      refine g_iload_n dX10_disliked_25 rfl ?_
      refine g_call1 dX10_disliked_26 clM_holder ml_M_78 gc10 rfl rfl (by decide) (Nat.le_of_ble_eq_true rfl) ?_
      refine SM_holder hM (by omega) ?_
      rw [hv_p (p := S 12 i 0) (by omega)]
      refine g_iload_n dX10_disliked_29 rfl ?_
      refine g_call2 dX10_disliked_30 clM_dislikeOf ml_M_197 gc10 rfl rfl (by decide) (Nat.le_of_ble_eq_true rfl) ?_
      refine SM_dislikeOf hM hn (by omega) ?_
      refine g_goto 37 dX10_disliked_33 (by decide) ?_
      first | refine g_iadd_n dX10_disliked_37 ?_ | refine g_iadd dX10_disliked_37 ?_
      refine g_ist3_1 dX10_disliked_38 (by decide) rfl ?_
      first | refine g_incn3_2 dX10_disliked_39 ki_1 (by decide) rfl ?_ | refine g_incg3_2 (nI 1) dX10_disliked_39 ki_1 (by decide) rfl ?_
      refine g_goto 4 dX10_disliked_42 (by decide) ?_
      exact ih
theorem both_disliked : Both mF_disliked mM_disliked [] := both_book f_disliked (fun M S Q => SF_disliked M S Q) (fun M S Q => SM_disliked M S Q) (fun S hW hH => hH)
def hvP (S : BS) : Nat → Nat
  | 0 => 8
  | n + 1 => if hr S n = true ∧ (hvP S n = 8 ∨ burN S (hvP S n) < burN S n) then n else hvP S n
theorem hvP_lt (S : BS) : ∀ {n : Nat}, hvP S n = 8 ∨ hvP S n < n
  | 0 => Or.inl rfl
  | n + 1 => by
    rw [hvP]
    split
    · exact Or.inr (by omega)
    · rcases hvP_lt S (n := n) with h | h
      · exact Or.inl h
      · exact Or.inr (by omega)
def uv (a : Nat) : Int32 := if a = 8 then -5 else nI a
theorem uv_p {a : Nat} (h : a ≠ 8) : uv a = nI a := if_neg h
theorem uv_8 : uv 8 = -5 := rfl
theorem uv_lt {a : Nat} (h : a ≤ 8) : uv a < 0 ↔ a = 8 := by
  unfold uv
  by_cases e : a = 8
  · simp only [e, if_true, iff_true]; decide
  · rw [if_neg e]; exact ⟨fun h2 => absurd h2 (nI_pos (by omega)), fun h2 => absurd h2 e⟩
theorem uv_eq {a : Nat} (h : a ≤ 8) : uv a = -5 ↔ a = 8 := by
  refine ⟨fun h2 => (uv_lt h).mp (by rw [h2]; decide), fun h2 => by rw [h2]; rfl⟩
def f_heaviest (S : BS) : Int32 × BS := (uv (hvP S (S 0 0 0)), S)
theorem SF_heaviest (M : Mm) (S : BS) (Q : Po) (hB : BK M S) (hH : HM S) (h : ∀ M', FrC M M' → BK M' (f_heaviest S).2 → Q M' (some (.int (f_heaviest S).1))) : Call 60 mF_heaviest [.ref 0] M Q := by
  have hw := hB.wf.np
  have h2 := h M FrC.rf hB
  unfold f_heaviest at h2
  refine Call_of (m := mF_heaviest) [some (.ref 0), none, none] rfl (fun G => Nat.le_of_ble_eq_true rfl) (fun G => rfl) ?_
  refine g_bipush ((-5)) dX9_heaviest_0 kb_m5 ?_
  refine g_ist3_1 dX9_heaviest_2 (by decide) rfl ?_
  refine g_iconst (nI 0) dX9_heaviest_3 ki_0 ?_
  refine g_ist3_2 dX9_heaviest_4 (by decide) rfl ?_
  refine loop_up (P := fun i => Go mF_heaviest 60 Q 5 [some (.ref 0), some (.int (uv (hvP S i))), some (.int (nI i))] [] M) (S 0 0 0) ?_ 0 (Nat.zero_le _)
  intro i hi ih
  refine g_iload_n dX9_heaviest_5 rfl ?_
  refine g_aload_n dX9_heaviest_6 rfl ?_
  refine g_getr (j := 0) dX9_heaviest_7 gc9 rfl (by decide) rfl (by decide) fl_F_13 ?_
  refine g_geti (j := 0) dX9_heaviest_10 gc0 rfl (by decide) rfl (by decide) fl_F_83 ?_
  try simp (disch := omega) only [hB.np]
  refine g_icmp_ge_n 63 dX9_heaviest_13 (by decide) (by omega) (by omega) (fun c13 => ?_) (fun c13 => ?_)
  · refine g_iload_n dX9_heaviest_63 rfl ?_
    refine g_ireturn dX9_heaviest_64 rfl (by first | rfl | exact nar_bI _) ?_
    rw [show i = S 0 0 0 by omega]; exact h2
  · have hb := hvP_lt S (n := i)
    have ih := ih (by omega)
    rw [hvP] at ih
    refine g_aload_n dX9_heaviest_16 rfl ?_
    refine g_getr (j := 0) dX9_heaviest_17 gc9 rfl (by decide) rfl (by decide) fl_F_13 ?_
    refine g_iload_n dX9_heaviest_20 rfl ?_
    refine g_call1 dX9_heaviest_21 clB_isHere ml_F_95 gc0 rfl rfl (by decide) (Nat.le_of_ble_eq_true rfl) ?_
    refine SB_isHere hB (by omega) ?_
    refine g_if_ne_b 30 dX9_heaviest_24 (by decide) (fun c24 => ?_) (fun c24 => ?_)
    · refine g_iload_n dX9_heaviest_30 rfl ?_
      refine g_bipush ((-5)) dX9_heaviest_31 kb_m5 ?_
      refine g_icmp_eq 55 dX9_heaviest_33 (by decide) (fun c33 => ?_) (fun c33 => ?_)
      · rw [uv_eq (by omega)] at c33
        rw [if_pos ⟨c24, Or.inl c33⟩, uv_p (by omega)] at ih
        refine g_iload_n dX9_heaviest_55 rfl ?_
        refine g_ist3_1 dX9_heaviest_56 (by decide) rfl ?_
        first | refine g_incn3_2 dX9_heaviest_57 ki_1 (by decide) rfl ?_ | refine g_incg3_2 (nI 1) dX9_heaviest_57 ki_1 (by decide) rfl ?_
        refine g_goto 5 dX9_heaviest_60 (by decide) ?_
        exact ih
      · rw [uv_eq (by omega)] at c33
        have hlt : hvP S i < S 0 0 0 := by omega
        have b1 := burN_le hB.wf (p := i) (by omega)
        have b2 := burN_le hB.wf (p := hvP S i) (by omega)
        rw [uv_p c33]
        refine g_aload_n dX9_heaviest_36 rfl ?_
        refine g_getr (j := 0) dX9_heaviest_37 gc9 rfl (by decide) rfl (by decide) fl_F_13 ?_
        refine g_iload_n dX9_heaviest_40 rfl ?_
        refine g_call1 dX9_heaviest_41 clB_burdenOf ml_F_130 gc0 rfl rfl (by decide) (Nat.le_of_ble_eq_true rfl) ?_
        refine SB_burdenOf hB (by omega) ?_
        refine g_aload_n dX9_heaviest_44 rfl ?_
        refine g_getr (j := 0) dX9_heaviest_45 gc9 rfl (by decide) rfl (by decide) fl_F_13 ?_
        refine g_iload_n dX9_heaviest_48 rfl ?_
        refine g_call1 dX9_heaviest_49 clB_burdenOf ml_F_130 gc0 rfl rfl (by decide) (Nat.le_of_ble_eq_true rfl) ?_
        refine SB_burdenOf hB hlt ?_
        refine g_icmp_le_n 57 dX9_heaviest_52 (by decide) (by omega) (by omega) (fun c52 => ?_) (fun c52 => ?_)
        · rw [if_neg (fun z => by omega), uv_p c33] at ih
          first | refine g_incn3_2 dX9_heaviest_57 ki_1 (by decide) rfl ?_ | refine g_incg3_2 (nI 1) dX9_heaviest_57 ki_1 (by decide) rfl ?_
          refine g_goto 5 dX9_heaviest_60 (by decide) ?_
          exact ih
        · rw [if_pos ⟨c24, Or.inr (by omega)⟩, uv_p (by omega)] at ih
          refine g_iload_n dX9_heaviest_55 rfl ?_
          refine g_ist3_1 dX9_heaviest_56 (by decide) rfl ?_
          first | refine g_incn3_2 dX9_heaviest_57 ki_1 (by decide) rfl ?_ | refine g_incg3_2 (nI 1) dX9_heaviest_57 ki_1 (by decide) rfl ?_
          refine g_goto 5 dX9_heaviest_60 (by decide) ?_
          exact ih
    · rw [if_neg (fun z => by rw [z.1] at c24; cases c24)] at ih
      refine g_goto 57 dX9_heaviest_27 (by decide) ?_
      first | refine g_incn3_2 dX9_heaviest_57 ki_1 (by decide) rfl ?_ | refine g_incg3_2 (nI 1) dX9_heaviest_57 ki_1 (by decide) rfl ?_
      refine g_goto 5 dX9_heaviest_60 (by decide) ?_
      exact ih
theorem SM_heaviest (M : Mm) (S : BS) (Q : Po) (hM : MK (M 58) S) (hC : MC M) (hH : HM S) (h : ∀ M', FrM M M' → MK (M' 58) (f_heaviest S).2 → Q M' (some (.int (f_heaviest S).1))) : Call 60 mM_heaviest [.ref 57] M Q := by
  have hw := hM.wf.np
  have h2 := h M FrM.rf hM
  unfold f_heaviest at h2
  refine Call_of (m := mM_heaviest) [some (.ref 57), none, none] rfl (fun G => Nat.le_of_ble_eq_true rfl) (fun G => rfl) ?_
  refine g_bipush ((-5)) dX10_heaviest_0 kb_m5 ?_
  refine g_ist3_1 dX10_heaviest_2 (by decide) rfl ?_
  refine g_iconst (nI 0) dX10_heaviest_3 ki_0 ?_
  refine g_ist3_2 dX10_heaviest_4 (by decide) rfl ?_
  refine loop_up (P := fun i => Go mM_heaviest 60 Q 5 [some (.ref 57), some (.int (uv (hvP S i))), some (.int (nI i))] [] M) (S 0 0 0) ?_ 0 (Nat.zero_le _)
  intro i hi ih
  refine g_iload_n dX10_heaviest_5 rfl ?_
  refine g_aload_n dX10_heaviest_6 rfl ?_
  refine g_getr (j := 0) dX10_heaviest_7 gc10 rfl (by decide) rfl (by decide) fl_M_9 ?_
  refine g_iconst (nI 0) dX10_heaviest_10 ki_0 ?_
  refine g_iald_n dX10_heaviest_11 (by first | rfl | assumption) (by first | decide | assumption) (by omega) (by omega) ?_
  try simp (disch := omega) only [hM.np]
  refine g_icmp_ge_n 52 dX10_heaviest_12 (by decide) (by omega) (by omega) (fun c12 => ?_) (fun c12 => ?_)
  · refine g_iload_n dX10_heaviest_52 rfl ?_
    refine g_ireturn dX10_heaviest_53 rfl (by first | rfl | exact nar_bI _) ?_
    rw [show i = S 0 0 0 by omega]; exact h2
  · have hb := hvP_lt S (n := i)
    have ih := ih (by omega)
    rw [hvP] at ih
    refine g_aload_n dX10_heaviest_15 rfl ?_
    refine g_iload_n dX10_heaviest_16 rfl ?_
    refine g_call1 dX10_heaviest_17 clM_isHere ml_M_100 gc10 rfl rfl (by decide) (Nat.le_of_ble_eq_true rfl) ?_
    refine SM_isHere hM (by omega) ?_
    refine g_if_eq_b 44 dX10_heaviest_20 (by decide) (fun c20 => ?_) (fun c20 => ?_)
    · rw [if_neg (fun z => by rw [z.1] at c20; cases c20)] at ih
      refine g_iload_n dX10_heaviest_44 rfl ?_
      refine g_ist3_1 dX10_heaviest_45 (by decide) rfl ?_
      first | refine g_incn3_2 dX10_heaviest_46 ki_1 (by decide) rfl ?_ | refine g_incg3_2 (nI 1) dX10_heaviest_46 ki_1 (by decide) rfl ?_
      refine g_goto 5 dX10_heaviest_49 (by decide) ?_
      exact ih
    · refine g_iload_n dX10_heaviest_23 rfl ?_
      refine g_if_lt 40 dX10_heaviest_24 (by decide) (fun c24 => ?_) (fun c24 => ?_)
      · rw [uv_lt (by omega)] at c24
        rw [if_pos ⟨c20, Or.inl c24⟩, uv_p (by omega)] at ih
        refine g_iload_n dX10_heaviest_40 rfl ?_
        refine g_goto 45 dX10_heaviest_41 (by decide) ?_
        refine g_ist3_1 dX10_heaviest_45 (by decide) rfl ?_
        first | refine g_incn3_2 dX10_heaviest_46 ki_1 (by decide) rfl ?_ | refine g_incg3_2 (nI 1) dX10_heaviest_46 ki_1 (by decide) rfl ?_
        refine g_goto 5 dX10_heaviest_49 (by decide) ?_
        exact ih
      · rw [uv_lt (by omega)] at c24
        have hlt : hvP S i < S 0 0 0 := by omega
        have b1 := burN_le hM.wf (p := i) (by omega)
        have b2 := burN_le hM.wf (p := hvP S i) (by omega)
        rw [uv_p c24]
        refine g_aload_n dX10_heaviest_27 rfl ?_
        refine g_iload_n dX10_heaviest_28 rfl ?_
        refine g_call1 dX10_heaviest_29 clM_burden ml_M_122 gc10 rfl rfl (by decide) (Nat.le_of_ble_eq_true rfl) ?_
        refine SM_burden hM hC (by omega) ?_
        refine g_aload_n dX10_heaviest_32 rfl ?_
        refine g_iload_n dX10_heaviest_33 rfl ?_
        refine g_call1 dX10_heaviest_34 clM_burden ml_M_122 gc10 rfl rfl (by decide) (Nat.le_of_ble_eq_true rfl) ?_
        refine SM_burden hM hC hlt ?_
        refine g_icmp_le_n 44 dX10_heaviest_37 (by decide) (by omega) (by omega) (fun c37 => ?_) (fun c37 => ?_)
        · rw [if_neg (fun z => by omega), uv_p c24] at ih
          refine g_iload_n dX10_heaviest_44 rfl ?_
          refine g_ist3_1 dX10_heaviest_45 (by decide) rfl ?_
          first | refine g_incn3_2 dX10_heaviest_46 ki_1 (by decide) rfl ?_ | refine g_incg3_2 (nI 1) dX10_heaviest_46 ki_1 (by decide) rfl ?_
          refine g_goto 5 dX10_heaviest_49 (by decide) ?_
          exact ih
        · rw [if_pos ⟨c20, Or.inr (by omega)⟩, uv_p (by omega)] at ih
          refine g_iload_n dX10_heaviest_40 rfl ?_
          refine g_goto 45 dX10_heaviest_41 (by decide) ?_
          refine g_ist3_1 dX10_heaviest_45 (by decide) rfl ?_
          first | refine g_incn3_2 dX10_heaviest_46 ki_1 (by decide) rfl ?_ | refine g_incg3_2 (nI 1) dX10_heaviest_46 ki_1 (by decide) rfl ?_
          refine g_goto 5 dX10_heaviest_49 (by decide) ?_
          exact ih
theorem both_heaviest : Both mF_heaviest mM_heaviest [] := both_book f_heaviest (fun M S Q => SF_heaviest M S Q) (fun M S Q => SM_heaviest M S Q) (fun S hW hH => hH)
