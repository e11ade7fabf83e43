/-! eases -/
theorem sumN_add (f g : Nat → Nat) : ∀ n, sumN (fun x => f x + g x) n = sumN f n + sumN g n
  | 0 => rfl
  | n + 1 => by rw [sumN, sumN, sumN, sumN_add f g n]; omega
theorem sumN_le {f g : Nat → Nat} : ∀ {n : Nat}, (∀ x, x < n → f x ≤ g x) → sumN f n ≤ sumN g n
  | 0, _ => Nat.le_refl _
  | n + 1, h => by
    rw [sumN, sumN]
    have h1 := sumN_le (n := n) (fun x hx => h x (by omega))
    have h2 := h n (by omega)
    omega
theorem sumN_mul (f : Nat → Nat) (c : Nat) : ∀ n, sumN (fun x => c * f x) n = c * sumN f n
  | 0 => rfl
  | n + 1 => by rw [sumN, sumN, sumN_mul f c n, Nat.mul_add]
theorem sumN_ind (a : Nat) : ∀ n, sumN (fun x => if a = x then 1 else 0) n ≤ 1 ∧ (n ≤ a → sumN (fun x => if a = x then 1 else 0) n = 0)
  | 0 => ⟨Nat.zero_le _, fun _ => rfl⟩
  | n + 1 => by
    obtain ⟨h1, h2⟩ := sumN_ind a n
    rw [sumN]
    by_cases e : a = n
    · rw [if_pos e]
      have := h2 (by omega)
      exact ⟨by omega, fun z => by omega⟩
    · rw [if_neg e]
      exact ⟨by omega, fun z => by have := h2 (by omega); omega⟩
theorem sum_cnt (a b : Nat → Nat) (k m : Nat) : ∀ n, sumN (fun x => cnt (fun d => a d == k && b d == x) n) m ≤ n
  | 0 => by
    have : ∀ m, sumN (fun _ => 0) m = 0 := fun m => by
      induction m with
      | zero => rfl
      | succ m ih => rw [sumN, ih]
    exact Nat.le_of_eq (this m)
  | n + 1 => by
    have h1 := sum_cnt a b k m n
    have h2 : sumN (fun x => cnt (fun d => a d == k && b d == x) (n + 1)) m ≤ sumN (fun x => cnt (fun d => a d == k && b d == x) n + (if b n = x then 1 else 0)) m := sumN_le (fun x hx => by
      rw [cnt]
      by_cases e : b n = x
      · rw [if_pos e]; split <;> omega
      · rw [if_neg e, if_neg (by simp [e])]; omega)
    rw [sumN_add] at h2
    have h3 := (sumN_ind (b n) m).1
    omega
theorem psi_le {S : BS} (hW : WF S) {k : Nat} (hk : k < 4) : psi S k ≤ 50000 := by
  have hw := hW.np
  have hw2 := hW.nd
  have h1 : psi S k ≤ sumN (fun p => 2050 * heldN S p k) (S 0 0 0) := sumN_le (fun p hp => by
    have h1 := load_le hW hk hp
    have h2 := held_load S p k
    exact Nat.mul_le_mul_right _ (by omega))
  rw [sumN_mul] at h1
  have h2 : sumN (fun p => heldN S p k) (S 0 0 0) ≤ S 1 0 0 := sum_cnt (fun d => S 11 d 0) (fun d => S 12 d 0) k (S 0 0 0) (S 1 0 0)
  omega
theorem lsP_c (S : BS) (k : Nat) : (lsP S k = S 0 0 0 ∧ ∀ j, j < S 0 0 0 → lcP S k j = false) ∨ (lsP S k < S 0 0 0 ∧ lcP S k (lsP S k) = true ∧ ∀ j, j < lsP S k → lcP S k j = false) := by
  unfold lsP
  have key : ∀ n, (fstN (fun p => lcP S k p) n = n ∧ ∀ j, j < n → lcP S k j = false) ∨ (fstN (fun p => lcP S k p) n < n ∧ lcP S k (fstN (fun p => lcP S k p) n) = true ∧ ∀ j, j < fstN (fun p => lcP S k p) n → lcP S k j = false) := by
    intro n
    induction n with
    | zero => exact Or.inl ⟨rfl, fun j hj => absurd hj (by omega)⟩
    | succ n ih =>
      rw [fstN]
      rcases ih with ⟨h1, h2⟩ | ⟨h1, h2, h3⟩
      · rw [h1, if_neg (by omega)]
        by_cases e : lcP S k n = true
        · rw [if_pos e]
          exact Or.inr ⟨by omega, e, h2⟩
        · rw [if_neg e]
          refine Or.inl ⟨rfl, fun j hj => ?_⟩
          rcases Nat.lt_or_ge j n with z | z
          · exact h2 j z
          · rw [show j = n by omega]; simpa using e
      · rw [if_pos h1]
        exact Or.inr ⟨by omega, h2, h3⟩
  exact key _
def ez (k : Nat) : Nat → BS → BS × Nat
  | 0, S => (S, 0)
  | f + 1, S => if lsP S k < S 0 0 0 then ((ez k f (ezS S k)).1, (ez k f (ezS S k)).2 + 1) else (S, 0)
theorem ez_none {S : BS} {k : Nat} (h : ∀ j, j < S 0 0 0 → lcP S k j = false) : ∀ f, ez k f S = (S, 0)
  | 0 => rfl
  | f + 1 => by rw [ez, if_neg (by rw [ls_none h]; omega)]
theorem ezS_eq {S : BS} {k p : Nat} (h : lsP S k = p) : ezS S k = shP 8 S (lpP S k p).2 (ltP S k p) := by unfold ezS; rw [h]
theorem ez_some {S : BS} {k p : Nat} (hp : p < S 0 0 0) (h : lsP S k = p) (f : Nat) : ez k (f + 1) S = ((ez k f (shP 8 S (lpP S k p).2 (ltP S k p))).1, (ez k f (shP 8 S (lpP S k p).2 (ltP S k p))).2 + 1) := by
  rw [ez, if_pos (by omega), ezS_eq h]
theorem ez_OK {k : Nat} : ∀ {f : Nat} {S : BS}, WF S → HM S → WF (ez k f S).1 ∧ HM (ez k f S).1 ∧ (ez k f S).2 ≤ f
  | 0, S, hW, hH => ⟨hW, hH, Nat.le_refl 0⟩
  | f + 1, S, hW, hH => by
    rw [ez]
    split
    · rename_i hp
      obtain ⟨i, hi, ei⟩ := ltP_ok hW (k := k) hp
      have h1 := (lpP_ok (S := S) (k := k) hp).1
      have h2 : WF (ezS S k) := by unfold ezS; rw [← ei]; exact shP_WF hW h1 hi
      have h3 : HM (ezS S k) := by unfold ezS; rw [← ei]; exact shP_HO hW h1 hH hi
      obtain ⟨a1, a2, a3⟩ := ez_OK (k := k) (f := f) h2 h3
      exact ⟨a1, a2, by dsimp only; omega⟩
    · exact ⟨hW, hH, Nat.zero_le _⟩
theorem SH_easeKind {d : Nat} {M : Mm} {S : BS} {Q : Po} (hB : BK M S) {k : Nat} (hk : k < 4) (h : ∀ M', EqO [2, 31, 32, 33, 34] M M' → BK M' (ez k (psi S k) S).1 → Q M' (some (.int (nI (ez k (psi S k) S).2)))) : Call (d + 7) mH_easeKind [.ref 31, .int (nI k)] M Q := by
  have hps := psi_le hB.wf hk
  refine Call_of (m := mH_easeKind) [some (.ref 31), some (.int (nI k)), none] rfl (fun G => Nat.le_of_ble_eq_true rfl) (fun G => rfl) ?_
  refine g_iconst (nI 0) dX4_easeKind_0 ki_0 ?_
  refine g_ist3_2 dX4_easeKind_1 (by decide) rfl ?_
  suffices hloop : ∀ f (M' : Mm) (S' : BS) (n : Nat), EqO [2, 31, 32, 33, 34] M M' → BK M' S' → psi S' k ≤ f → n + f ≤ 50000 → (∀ M2, EqO [2, 31, 32, 33, 34] M M2 → BK M2 (ez k f S').1 → Q M2 (some (.int (nI (n + (ez k f S').2))))) → Go mH_easeKind (d + 7) Q 2 [some (.ref 31), some (.int (nI k)), some (.int (nI n))] [] M' by
    refine hloop (psi S k) M S 0 EqO.rf hB (Nat.le_refl _) (by omega) (fun M2 hE2 hB2 => ?_)
    rw [Nat.zero_add]
    exact h M2 hE2 hB2
  intro f
  induction f with
  | zero =>
    intro M' S' n hE hB' hp hn hQ
    refine g_iload_n dX4_easeKind_2 rfl ?_
    refine g_ldc (1000000) dX4_easeKind_3 kc_H_67 ?_
    rw [show (1000000 : Int32) = nI 1000000 from rfl]
    refine g_icmp_ge_n 30 dX4_easeKind_5 (by decide) (by omega) (by omega) (fun c5 => ?_) (fun c5 => ?_)
    · exact absurd c5 (by omega)
    · refine g_aload_n dX4_easeKind_8 rfl ?_
      refine g_iload_n dX4_easeKind_9 rfl ?_
      refine g_call1 dX4_easeKind_10 clH_findLesser ml_H_68 gc4 rfl rfl (by decide) (Nat.le_of_ble_eq_true rfl) ?_
      refine SH_findLesser hB' hk (fun M1 hE1 hno _ _ => ?_) (fun M1 p hE1 hlt hlo hone e5 e6 hq => ?_)
      · refine g_if_eq_ff 30 dX4_easeKind_13 (by decide) ?_
        refine g_iload_n dX4_easeKind_30 rfl ?_
        refine g_ireturn dX4_easeKind_31 rfl (by first | rfl | exact nar_bI _) ?_
        exact hQ M1 (hE.tr (hE1.sub (by decide))) (hB'.eqO hE1 (by decide))
      · have := psi_less hB'.wf hlt hone
        omega
  | succ f ih =>
    intro M' S' n hE hB' hp hn hQ
    refine g_iload_n dX4_easeKind_2 rfl ?_
    refine g_ldc (1000000) dX4_easeKind_3 kc_H_67 ?_
    rw [show (1000000 : Int32) = nI 1000000 from rfl]
    refine g_icmp_ge_n 30 dX4_easeKind_5 (by decide) (by omega) (by omega) (fun c5 => ?_) (fun c5 => ?_)
    · exact absurd c5 (by omega)
    · refine g_aload_n dX4_easeKind_8 rfl ?_
      refine g_iload_n dX4_easeKind_9 rfl ?_
      refine g_call1 dX4_easeKind_10 clH_findLesser ml_H_68 gc4 rfl rfl (by decide) (Nat.le_of_ble_eq_true rfl) ?_
      refine SH_findLesser hB' hk (fun M1 hE1 hno _ _ => ?_) (fun M1 p hE1 hlt hlo hone e5 e6 hq => ?_)
      · refine g_if_eq_ff 30 dX4_easeKind_13 (by decide) ?_
        refine g_iload_n dX4_easeKind_30 rfl ?_
        refine g_ireturn dX4_easeKind_31 rfl (by first | rfl | exact nar_bI _) ?_
        have := hQ M1 (hE.tr (hE1.sub (by decide)))
        rw [ez_none hno] at this
        exact this (hB'.eqO hE1 (by decide))
      · have hB1 := hB'.eqO hE1 (by decide)
        have hps2 := psi_less hB'.wf hlt hone
        obtain ⟨i, hi, ei⟩ := ltP_ok hB'.wf (k := k) hlt
        refine g_if_eq_tt 30 dX4_easeKind_13 (by decide) ?_
        refine g_aload_n dX4_easeKind_16 rfl ?_
        refine g_aload_n dX4_easeKind_17 rfl ?_
        refine g_geti (j := 6) dX4_easeKind_18 gc4 rfl (by decide) rfl (by decide) fl_H_33 ?_
        try simp (disch := omega) only [e6]
        refine g_call1 dX4_easeKind_21 clH_shiftTo ml_H_64 gc4 rfl rfl (by decide) (Nat.le_of_ble_eq_true rfl) ?_
        rw [← ei]
        refine SH_shiftTo hB1 hq (lpP_ok hlt).1 hi (fun M2 hE2 hB2 => ?_)
        first | refine g_incn3_2 dX4_easeKind_24 ki_1 (by decide) rfl ?_ | refine g_incg3_2 (nI 1) dX4_easeKind_24 ki_1 (by decide) rfl ?_
        refine g_goto 2 dX4_easeKind_27 (by decide) ?_
        rw [ei] at hB2
        refine ih M2 _ (n + 1) (hE.tr ((hE1.sub (by decide)).tr (hE2.sub (by decide)))) hB2 (by omega) (by omega) (fun M3 hE3 hB3 => ?_)
        have := hQ M3 hE3
        rw [ez_some hlt (ls_one hlt hlo hone)] at this
        have := this hB3
        dsimp only at this
        rw [show n + 1 + (ez k f (shP 8 S' (lpP S' k p).2 (ltP S' k p))).2 = n + ((ez k f (shP 8 S' (lpP S' k p).2 (ltP S' k p))).2 + 1) by omega]
        exact this
def f_eases (k : Int32) (S : BS) : Int32 × BS := if inR k 4 = true then (nI (ez (v2n k) (psi S (v2n k)) S).2, (ez (v2n k) (psi S (v2n k)) S).1) else (-1, S)
theorem SF_eases (k : Int32) (M : Mm) (S : BS) (Q : Po) (hB : BK M S) (hH : HM S) (h : ∀ M', FrC M M' → BK M' (f_eases k S).2 → Q M' (some (.int (f_eases k S).1))) : Call 60 mF_eases [.ref 0, .int k] M Q := by
  unfold f_eases at h
  refine Call_of (m := mF_eases) [some (.ref 0), some (.int k)] rfl (fun G => Nat.le_of_ble_eq_true rfl) (fun G => rfl) ?_
  refine g_iload_n dX9_eases_0 rfl ?_
  refine g_calls1 dX9_eases_1 clF_isKind ml_F_106 (Nat.le_of_ble_eq_true rfl) ?_
  refine SF_isKind k ?_
  refine g_if_eq_b 18 dX9_eases_4 (by decide) (fun c4 => ?_) (fun c4 => ?_)
  · rw [if_neg (by rw [c4]; decide)] at h
    refine g_iconst ((-1)) dX9_eases_18 ki_m1 ?_
    refine g_ireturn dX9_eases_19 rfl (by first | rfl | exact nar_bI _) ?_
    exact h M FrC.rf hB
  · obtain ⟨e, he, rfl⟩ := inR_true c4
    rw [if_pos c4, v2n_nI (show e < 2 ^ 31 by omega)] at h
    refine g_aload_n dX9_eases_7 rfl ?_
    refine g_getr (j := 4) dX9_eases_8 gc9 rfl (by decide) rfl (by decide) fl_F_38 ?_
    refine g_iload_n dX9_eases_11 rfl ?_
    refine g_call1 dX9_eases_12 clH_easeKind ml_F_228 gc4 rfl rfl (by decide) (Nat.le_of_ble_eq_true rfl) ?_
    refine SH_easeKind hB he (fun M' hE hB' => ?_)
    refine g_goto 19 dX9_eases_15 (by decide) ?_
    refine g_ireturn dX9_eases_19 rfl (by first | rfl | exact nar_bI _) ?_
    exact h M' (FrC.of hE (by decide)) hB'
theorem SM_eases (k : Int32) (M : Mm) (S : BS) (Q : Po) (hM : MK (M 58) S) (hC : MC M) (hH : HM S) (h : ∀ M', FrM M M' → MK (M' 58) (f_eases k S).2 → Q M' (some (.int (f_eases k S).1))) : Call 60 mM_eases [.ref 57, .int k] M Q := by
  unfold f_eases at h
  refine Call_of (m := mM_eases) [some (.ref 57), some (.int k), none] rfl (fun G => Nat.le_of_ble_eq_true rfl) (fun G => rfl) ?_
  refine g_iload_n dX10_eases_0 rfl ?_
  refine g_calls1 dX10_eases_1 clM_isKind ml_M_117 (Nat.le_of_ble_eq_true rfl) ?_
  refine SM_isKind k ?_
  refine g_if_ne_b 9 dX10_eases_4 (by decide) (fun c4 => ?_) (fun c4 => ?_)
  · obtain ⟨e, he, rfl⟩ := inR_true c4
    rw [if_pos c4, v2n_nI (show e < 2 ^ 31 by omega)] at h
    have hps := psi_le hM.wf he
    refine g_iconst (nI 0) dX10_eases_9 ki_0 ?_
    refine g_ist3_2 dX10_eases_10 (by decide) rfl ?_
    suffices hloop : ∀ f (M' : Mm) (S' : BS) (n : Nat), FrM M M' → MK (M' 58) S' → HM S' → psi S' e ≤ f → n + f ≤ 50000 → (∀ M2, FrM M M2 → MK (M2 58) (ez e f S').1 → Q M2 (some (.int (nI (n + (ez e f S').2))))) → Go mM_eases 60 Q 11 [some (.ref 57), some (.int (nI e)), some (.int (nI n))] [] M' by
      refine hloop (psi S e) M S 0 FrM.rf hM hH (Nat.le_refl _) (by omega) (fun M2 hE2 hB2 => ?_)
      rw [Nat.zero_add]
      exact h M2 hE2 hB2
    intro f
    induction f with
    | zero =>
      intro M' S' n hE hM' hH' hp hn hQ
      refine g_aload_n dX10_eases_11 rfl ?_
      refine g_iload_n dX10_eases_12 rfl ?_
      refine g_call1 dX10_eases_13 clM_isLesser ml_M_194 gc10 rfl rfl (by decide) (Nat.le_of_ble_eq_true rfl) ?_
      refine SM_isLesser hM' hH' he (fun M1 hE1 hno => ?_) (fun M1 p hE1 hlt hlo hone e5 e6 hq => ?_)
      · refine g_if_eq_ff 33 dX10_eases_16 (by decide) ?_
        refine g_iload_n dX10_eases_33 rfl ?_
        refine g_ireturn dX10_eases_34 rfl (by first | rfl | exact nar_bI _) ?_
        exact hQ M1 (hE.tr (FrM.ofQ hE1 (by decide))) (hM'.eqQ hE1 (by decide))
      · have := psi_less hM'.wf hlt hone
        omega
    | succ f ih =>
      intro M' S' n hE hM' hH' hp hn hQ
      refine g_aload_n dX10_eases_11 rfl ?_
      refine g_iload_n dX10_eases_12 rfl ?_
      refine g_call1 dX10_eases_13 clM_isLesser ml_M_194 gc10 rfl rfl (by decide) (Nat.le_of_ble_eq_true rfl) ?_
      refine SM_isLesser hM' hH' he (fun M1 hE1 hno => ?_) (fun M1 p hE1 hlt hlo hone e5 e6 hq => ?_)
      · refine g_if_eq_ff 33 dX10_eases_16 (by decide) ?_
        refine g_iload_n dX10_eases_33 rfl ?_
        refine g_ireturn dX10_eases_34 rfl (by first | rfl | exact nar_bI _) ?_
        have := hQ M1 (hE.tr (FrM.ofQ hE1 (by decide)))
        rw [ez_none hno] at this
        exact this (hM'.eqQ hE1 (by decide))
      · have hM1 := hM'.eqQ hE1 (by decide)
        have hps2 := psi_less hM'.wf hlt hone
        obtain ⟨i, hi, ei⟩ := ltP_ok hM'.wf (k := e) hlt
        have h1 := (lpP_ok (S := S') (k := e) hlt).1
        have hHn := shP_HO hM'.wf h1 hH' hi
        refine g_if_eq_tt 33 dX10_eases_16 (by decide) ?_
        refine g_aload_n dX10_eases_19 rfl ?_
        refine g_aload_n dX10_eases_20 rfl ?_
        refine g_geti (j := 13) dX10_eases_21 gc10 rfl (by decide) rfl (by decide) fl_M_189 ?_
        try simp (disch := omega) only [e6]
        refine g_call1 dX10_eases_24 clM_shifts ml_M_174 gc10 rfl rfl (by decide) (Nat.le_of_ble_eq_true rfl) ?_
        rw [← ei]
        refine SM_shifts hM1 hq h1 hi (fun M2 hE2 hM2 => ?_)
        first | refine g_incn3_2 dX10_eases_27 ki_1 (by decide) rfl ?_ | refine g_incg3_2 (nI 1) dX10_eases_27 ki_1 (by decide) rfl ?_
        refine g_goto 11 dX10_eases_30 (by decide) ?_
        rw [ei] at hM2 hHn
        refine ih M2 _ (n + 1) (hE.tr ((FrM.ofQ hE1 (by decide)).tr (FrM.of hE2 (by decide)))) hM2 hHn (by omega) (by omega) (fun M3 hE3 hB3 => ?_)
        have := hQ M3 hE3
        rw [ez_some hlt (ls_one hlt hlo hone)] at this
        have := this hB3
        dsimp only at this
        rw [show n + 1 + (ez e f (shP 8 S' (lpP S' e p).2 (ltP S' e p))).2 = n + ((ez e f (shP 8 S' (lpP S' e p).2 (ltP S' e p))).2 + 1) by omega]
        exact this
  · rw [if_neg (by rw [c4]; decide)] at h
    refine g_iconst ((-1)) dX10_eases_7 ki_m1 ?_
    refine g_ireturn dX10_eases_8 rfl (by first | rfl | exact nar_bI _) ?_
    exact h M FrM.rf hM
theorem both_eases (k : Int32) : Both mF_eases mM_eases [.int k] := both_book (f_eases k) (fun M S Q => SF_eases k M S Q) (fun M S Q => SM_eases k M S Q) (fun S hW hH => by
  unfold f_eases
  split
  · exact (ez_OK hW hH).2.1
  · exact hH)
