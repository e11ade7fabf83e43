/-! VECTORS: a new one stands behind all that are not lesser -/
def posV (f : Nat → Nat) (v : Nat) : Nat → Nat
  | 0 => 0
  | k + 1 => if f k < v then posV f v k else k + 1
theorem posV_le (f : Nat → Nat) (v : Nat) : ∀ k, posV f v k ≤ k
  | 0 => Nat.le_refl 0
  | k + 1 => by
    rw [posV]
    split
    · have := posV_le f v k; omega
    · exact Nat.le_refl _
def insV (f : Nat → Nat) (n v : Nat) : Nat → Nat := fun j => if j < posV f v n then f j else if j = posV f v n then v else f (j - 1)
def vecV (S : BS) (g : Nat → Nat) (k : Nat) : Nat → Nat → Nat
  | 0 => fun _ => 0
  | n + 1 => if hr S n = true then insV (vecV S g k n) (cnt (hr S) n) (loadF S g n k) else vecV S g k n
theorem insV_le {f : Nat → Nat} {n v c : Nat} (h : ∀ j, j < n → f j ≤ c) (hv : v ≤ c) : ∀ j, j < n + 1 → insV f n v j ≤ c := fun j hj => by
  have := posV_le f v n
  unfold insV
  split
  · exact h j (by omega)
  · split
    · exact hv
    · exact h (j - 1) (by omega)
theorem loadF_le {S : BS} (hW : WF S) (g : Nat → Nat) {k p : Nat} (hk : k < 4) (hp : p < S 0 0 0) : loadF S g p k ≤ 1025 := by
  have hw := hW.np
  have hw2 := hW.nd
  have h1 := hW.ps (p := p) (k := k) (by omega) hk
  have h2 := headN_le S p k
  have h3 := heldF_le S g p k
  unfold loadF
  omega
theorem vecV_le {S : BS} (hW : WF S) (g : Nat → Nat) {k : Nat} (hk : k < 4) : ∀ {n : Nat}, n ≤ S 0 0 0 → ∀ j, j < cnt (hr S) n → vecV S g k n j ≤ 1025
  | 0, _, j, hj => by rw [cnt] at hj; omega
  | n + 1, hn, j, hj => by
    have ih := vecV_le hW g hk (n := n) (by omega)
    rw [vecV]
    split
    · rename_i hc
      rw [cnt_t hc] at hj
      exact insV_le ih (loadF_le hW g hk (by omega)) j hj
    · rename_i hc
      rw [cnt_f (by simpa using hc)] at hj
      exact ih j hj
theorem SL_insert_28 {d : Nat} {M : Mm} {Q : Po} {f : Nat → Nat} {n v : Nat} (hn : n < 8) (hv : v ≤ 1025) (hf : ∀ j, j < n → M 28 j = nI (f j)) (hf2 : ∀ j, j < n → f j ≤ 1025) (h : ∀ M', EqO [28] M M' → (∀ j, j < n + 1 → M' 28 j = nI (insV f n v j)) → Q M' none) : Call (d + 1) mL_insertFalling [.ref 28, .int (nI n), .int (nI v)] M Q := by
  refine Call_of (m := mL_insertFalling) [some (.ref 28), some (.int (nI n)), some (.int (nI v)), none] rfl (fun G => Nat.le_of_ble_eq_true rfl) (fun G => rfl) ?_
  refine g_iload_n dX2_insertFalling_0 rfl ?_
  refine g_if_lt_n 10 dX2_insertFalling_1 (by decide) (by omega) ?_
  refine g_iload_n dX2_insertFalling_4 rfl ?_
  refine g_aload_n dX2_insertFalling_5 rfl ?_
  refine g_alen dX2_insertFalling_6 (by first | rfl | assumption) (by first | decide | assumption) ?_
  refine g_icmp_lt_n 11 dX2_insertFalling_7 (by decide) (by omega) (by omega) (fun c7 => ?_) (fun c7 => ?_)
  · refine g_iload_n dX2_insertFalling_11 rfl ?_
    refine g_ist4_3 dX2_insertFalling_12 (by decide) rfl ?_
    suffices hloop : ∀ i, i ≤ n → ∀ M', EqO [28] M M' → (∀ j, j < i → M' 28 j = nI (f j)) → (∀ j, i < j → j ≤ n → M' 28 j = nI (f (j - 1))) → posV f v n = posV f v i → Go mL_insertFalling (d + 1) Q 13 [some (.ref 28), some (.int (nI n)), some (.int (nI v)), some (.int (nI i))] [] M' by
      exact hloop n (Nat.le_refl _) M EqO.rf hf (fun j h1 h2 => absurd h2 (by omega)) rfl
    have hdone : ∀ i, i ≤ n → posV f v n = i → ∀ M', EqO [28] M M' → (∀ j, j < i → M' 28 j = nI (f j)) → (∀ j, i < j → j ≤ n → M' 28 j = nI (f (j - 1))) → Q (mset M' 28 i (nI v)) none := fun i hi hp M' hE hlo hhi => by
      refine h _ (hE.tr (EqO.set (by decide))) (fun j hj => ?_)
      unfold insV
      rw [hp]
      by_cases e : j = i
      · subst e; rw [mset_at, if_neg (by omega), if_pos rfl]
      · rw [mset_off (by omega)]
        rcases Nat.lt_or_ge j i with q | q
        · rw [if_pos q]; exact hlo j q
        · rw [if_neg (by omega), if_neg e]; exact hhi j (by omega) (by omega)
    intro i
    induction i with
    | zero =>
      intro hi M' hE hlo hhi hp
      refine g_iload_n dX2_insertFalling_13 rfl ?_
      refine g_if_le_n 40 dX2_insertFalling_14 (by decide) (by omega) (fun c14 => ?_) (fun c14 => ?_)
      · refine g_aload_n dX2_insertFalling_40 rfl ?_
        refine g_iload_n dX2_insertFalling_41 rfl ?_
        refine g_iload_n dX2_insertFalling_42 rfl ?_
        refine g_iast_n dX2_insertFalling_43 (by first | rfl | assumption) (by first | decide | assumption) (by omega) (by omega) ?_
        refine g_return dX2_insertFalling_44 rfl ?_
        exact hdone 0 hi hp M' hE hlo hhi
      · exact absurd rfl c14
    | succ i ih =>
      intro hi M' hE hlo hhi hp
      have e1 : M' 28 (i + 1 - 1) = nI (f i) := by rw [show i + 1 - 1 = i by omega]; exact hlo i (by omega)
      have hfi := hf2 i (by omega)
      refine g_iload_n dX2_insertFalling_13 rfl ?_
      refine g_if_le_n 40 dX2_insertFalling_14 (by decide) (by omega) (fun c14 => ?_) (fun c14 => ?_)
      · exact absurd c14 (by omega)
      · refine g_aload_n dX2_insertFalling_17 rfl ?_
        refine g_iload_n dX2_insertFalling_18 rfl ?_
        refine g_iconst (nI 1) dX2_insertFalling_19 ki_1 ?_
        first | refine g_isub_n dX2_insertFalling_20 (by omega) ?_ | refine g_isub dX2_insertFalling_20 ?_
        refine g_iald_n dX2_insertFalling_21 (by first | rfl | assumption) (by first | decide | assumption) (by omega) (by omega) ?_
        try simp (disch := omega) only [e1]
        refine g_iload_n dX2_insertFalling_22 rfl ?_
        refine g_icmp_ge_n 40 dX2_insertFalling_23 (by decide) (by omega) (by omega) (fun c23 => ?_) (fun c23 => ?_)
        · refine g_aload_n dX2_insertFalling_40 rfl ?_
          refine g_iload_n dX2_insertFalling_41 rfl ?_
          refine g_iload_n dX2_insertFalling_42 rfl ?_
          refine g_iast_n dX2_insertFalling_43 (by first | rfl | assumption) (by first | decide | assumption) (by omega) (by omega) ?_
          refine g_return dX2_insertFalling_44 rfl ?_
          refine hdone (i + 1) hi ?_ M' hE hlo hhi
          rw [hp, posV, if_neg (by omega)]
        · refine g_aload_n dX2_insertFalling_26 rfl ?_
          refine g_iload_n dX2_insertFalling_27 rfl ?_
          refine g_aload_n dX2_insertFalling_28 rfl ?_
          refine g_iload_n dX2_insertFalling_29 rfl ?_
          refine g_iconst (nI 1) dX2_insertFalling_30 ki_1 ?_
          first | refine g_isub_n dX2_insertFalling_31 (by omega) ?_ | refine g_isub dX2_insertFalling_31 ?_
          refine g_iald_n dX2_insertFalling_32 (by first | rfl | assumption) (by first | decide | assumption) (by omega) (by omega) ?_
          try simp (disch := omega) only [e1]
          refine g_iast_n dX2_insertFalling_33 (by first | rfl | assumption) (by first | decide | assumption) (by omega) (by omega) ?_
          first | refine g_incp4_3 dX2_insertFalling_34 ki_m1 (by omega) (by decide) rfl ?_ | refine g_incg4_3 (-1) dX2_insertFalling_34 ki_m1 (by decide) rfl ?_
          refine g_goto 13 dX2_insertFalling_37 (by decide) ?_
          refine ih (by omega) _ (hE.tr (EqO.set (by decide))) ?_ ?_ ?_
          · intro j hj; rw [mset_off (by omega)]; exact hlo j (by omega)
          · intro j h1 h2
            by_cases e : j = i + 1
            · subst e; rw [mset_at, show i + 1 - 1 = i by omega]
            · rw [mset_off (by omega)]; exact hhi j (by omega) h2
          · rw [hp, posV, if_pos (by omega)]
  · exact absurd hn c7
theorem SL_insert_29 {d : Nat} {M : Mm} {Q : Po} {f : Nat → Nat} {n v : Nat} (hn : n < 8) (hv : v ≤ 1025) (hf : ∀ j, j < n → M 29 j = nI (f j)) (hf2 : ∀ j, j < n → f j ≤ 1025) (h : ∀ M', EqO [29] M M' → (∀ j, j < n + 1 → M' 29 j = nI (insV f n v j)) → Q M' none) : Call (d + 1) mL_insertFalling [.ref 29, .int (nI n), .int (nI v)] M Q := by
  refine Call_of (m := mL_insertFalling) [some (.ref 29), some (.int (nI n)), some (.int (nI v)), none] rfl (fun G => Nat.le_of_ble_eq_true rfl) (fun G => rfl) ?_
  refine g_iload_n dX2_insertFalling_0 rfl ?_
  refine g_if_lt_n 10 dX2_insertFalling_1 (by decide) (by omega) ?_
  refine g_iload_n dX2_insertFalling_4 rfl ?_
  refine g_aload_n dX2_insertFalling_5 rfl ?_
  refine g_alen dX2_insertFalling_6 (by first | rfl | assumption) (by first | decide | assumption) ?_
  refine g_icmp_lt_n 11 dX2_insertFalling_7 (by decide) (by omega) (by omega) (fun c7 => ?_) (fun c7 => ?_)
  · refine g_iload_n dX2_insertFalling_11 rfl ?_
    refine g_ist4_3 dX2_insertFalling_12 (by decide) rfl ?_
    suffices hloop : ∀ i, i ≤ n → ∀ M', EqO [29] M M' → (∀ j, j < i → M' 29 j = nI (f j)) → (∀ j, i < j → j ≤ n → M' 29 j = nI (f (j - 1))) → posV f v n = posV f v i → Go mL_insertFalling (d + 1) Q 13 [some (.ref 29), some (.int (nI n)), some (.int (nI v)), some (.int (nI i))] [] M' by
      exact hloop n (Nat.le_refl _) M EqO.rf hf (fun j h1 h2 => absurd h2 (by omega)) rfl
    have hdone : ∀ i, i ≤ n → posV f v n = i → ∀ M', EqO [29] M M' → (∀ j, j < i → M' 29 j = nI (f j)) → (∀ j, i < j → j ≤ n → M' 29 j = nI (f (j - 1))) → Q (mset M' 29 i (nI v)) none := fun i hi hp M' hE hlo hhi => by
      refine h _ (hE.tr (EqO.set (by decide))) (fun j hj => ?_)
      unfold insV
      rw [hp]
      by_cases e : j = i
      · subst e; rw [mset_at, if_neg (by omega), if_pos rfl]
      · rw [mset_off (by omega)]
        rcases Nat.lt_or_ge j i with q | q
        · rw [if_pos q]; exact hlo j q
        · rw [if_neg (by omega), if_neg e]; exact hhi j (by omega) (by omega)
    intro i
    induction i with
    | zero =>
      intro hi M' hE hlo hhi hp
      refine g_iload_n dX2_insertFalling_13 rfl ?_
      refine g_if_le_n 40 dX2_insertFalling_14 (by decide) (by omega) (fun c14 => ?_) (fun c14 => ?_)
      · refine g_aload_n dX2_insertFalling_40 rfl ?_
        refine g_iload_n dX2_insertFalling_41 rfl ?_
        refine g_iload_n dX2_insertFalling_42 rfl ?_
        refine g_iast_n dX2_insertFalling_43 (by first | rfl | assumption) (by first | decide | assumption) (by omega) (by omega) ?_
        refine g_return dX2_insertFalling_44 rfl ?_
        exact hdone 0 hi hp M' hE hlo hhi
      · exact absurd rfl c14
    | succ i ih =>
      intro hi M' hE hlo hhi hp
      have e1 : M' 29 (i + 1 - 1) = nI (f i) := by rw [show i + 1 - 1 = i by omega]; exact hlo i (by omega)
      have hfi := hf2 i (by omega)
      refine g_iload_n dX2_insertFalling_13 rfl ?_
      refine g_if_le_n 40 dX2_insertFalling_14 (by decide) (by omega) (fun c14 => ?_) (fun c14 => ?_)
      · exact absurd c14 (by omega)
      · refine g_aload_n dX2_insertFalling_17 rfl ?_
        refine g_iload_n dX2_insertFalling_18 rfl ?_
        refine g_iconst (nI 1) dX2_insertFalling_19 ki_1 ?_
        first | refine g_isub_n dX2_insertFalling_20 (by omega) ?_ | refine g_isub dX2_insertFalling_20 ?_
        refine g_iald_n dX2_insertFalling_21 (by first | rfl | assumption) (by first | decide | assumption) (by omega) (by omega) ?_
        try simp (disch := omega) only [e1]
        refine g_iload_n dX2_insertFalling_22 rfl ?_
        refine g_icmp_ge_n 40 dX2_insertFalling_23 (by decide) (by omega) (by omega) (fun c23 => ?_) (fun c23 => ?_)
        · refine g_aload_n dX2_insertFalling_40 rfl ?_
          refine g_iload_n dX2_insertFalling_41 rfl ?_
          refine g_iload_n dX2_insertFalling_42 rfl ?_
          refine g_iast_n dX2_insertFalling_43 (by first | rfl | assumption) (by first | decide | assumption) (by omega) (by omega) ?_
          refine g_return dX2_insertFalling_44 rfl ?_
          refine hdone (i + 1) hi ?_ M' hE hlo hhi
          rw [hp, posV, if_neg (by omega)]
        · refine g_aload_n dX2_insertFalling_26 rfl ?_
          refine g_iload_n dX2_insertFalling_27 rfl ?_
          refine g_aload_n dX2_insertFalling_28 rfl ?_
          refine g_iload_n dX2_insertFalling_29 rfl ?_
          refine g_iconst (nI 1) dX2_insertFalling_30 ki_1 ?_
          first | refine g_isub_n dX2_insertFalling_31 (by omega) ?_ | refine g_isub dX2_insertFalling_31 ?_
          refine g_iald_n dX2_insertFalling_32 (by first | rfl | assumption) (by first | decide | assumption) (by omega) (by omega) ?_
          try simp (disch := omega) only [e1]
          refine g_iast_n dX2_insertFalling_33 (by first | rfl | assumption) (by first | decide | assumption) (by omega) (by omega) ?_
          first | refine g_incp4_3 dX2_insertFalling_34 ki_m1 (by omega) (by decide) rfl ?_ | refine g_incg4_3 (-1) dX2_insertFalling_34 ki_m1 (by decide) rfl ?_
          refine g_goto 13 dX2_insertFalling_37 (by decide) ?_
          refine ih (by omega) _ (hE.tr (EqO.set (by decide))) ?_ ?_ ?_
          · intro j hj; rw [mset_off (by omega)]; exact hlo j (by omega)
          · intro j h1 h2
            by_cases e : j = i + 1
            · subst e; rw [mset_at, show i + 1 - 1 = i by omega]
            · rw [mset_off (by omega)]; exact hhi j (by omega) h2
          · rw [hp, posV, if_pos (by omega)]
  · exact absurd hn c7
theorem SL_make_28 {d : Nat} {M : Mm} {S : BS} {Q : Po} (hB : BK M S) (g : Nat → Nat) (hg : ∀ i, i < S 1 0 0 → M 2 i = hv (g i)) (hg8 : ∀ i, i < S 1 0 0 → g i ≤ 8) {k : Nat} (hk : k < 4) (h : ∀ M', EqO [28] M M' → (∀ j, j < cnt (hr S) (S 0 0 0) → M' 28 j = nI (vecV S g k (S 0 0 0) j)) → Q M' (some (.int (nI (cnt (hr S) (S 0 0 0)))))) : Call (d + 4) mL_makeVector [.ref 27, .ref 28, .ref 2, .int (nI k)] M Q := by
  have hw := hB.wf.np
  refine Call_of (m := mL_makeVector) [some (.ref 27), some (.ref 28), some (.ref 2), some (.int (nI k)), none, none] rfl (fun G => Nat.le_of_ble_eq_true rfl) (fun G => rfl) ?_
  refine g_iconst (nI 0) dX2_makeVector_0 ki_0 ?_
  refine g_ist6_4 dX2_makeVector_1 (by decide) rfl ?_
  refine g_iconst (nI 0) dX2_makeVector_3 ki_0 ?_
  refine g_ist6_5 dX2_makeVector_4 (by decide) rfl ?_
  refine loop_up (P := fun i => ∀ M', EqO [28] M M' → (∀ j, j < cnt (hr S) i → M' 28 j = nI (vecV S g k i j)) → Go mL_makeVector (d + 4) Q 6 [some (.ref 27), some (.ref 28), some (.ref 2), some (.int (nI k)), some (.int (nI (cnt (hr S) i))), some (.int (nI i))] [] M') (S 0 0 0) ?_ 0 (Nat.zero_le _) M EqO.rf (fun j hj => absurd hj (by rw [cnt]; omega))
  intro i hi ih M' hE hv
  have hB' := hB.eqO hE (by decide)
  have hcl := cnt_le (hr S) i
  refine g_iload dX2_makeVector_6 rfl ?_
  refine g_aload_n dX2_makeVector_8 rfl ?_
  refine g_getr (j := 0) dX2_makeVector_9 gc2 rfl (by decide) rfl (by decide) fl_L_21 ?_
  refine g_geti (j := 0) dX2_makeVector_12 gc0 rfl (by decide) rfl (by decide) fl_L_34 ?_
  try simp (disch := omega) only [hB'.np]
  refine g_icmp_ge_n 66 dX2_makeVector_15 (by decide) (by omega) (by omega) (fun c15 => ?_) (fun c15 => ?_)
  · refine g_iload dX2_makeVector_66 rfl ?_
    refine g_ireturn dX2_makeVector_68 rfl (by first | rfl | exact nar_bI _) ?_
    rw [show i = S 0 0 0 by omega] at hv ⊢
    exact h M' hE hv
  · have hcn : cnt (hr S) i < 8 := by omega
    refine g_iload dX2_makeVector_18 rfl ?_
    refine g_aload_n dX2_makeVector_20 rfl ?_
    refine g_alen dX2_makeVector_21 (by first | rfl | assumption) (by first | decide | assumption) ?_
    refine g_icmp_ge_n 66 dX2_makeVector_22 (by decide) (by omega) (by omega) (fun c22 => ?_) (fun c22 => ?_)
    · exact absurd hcn (by omega)
    · have ih := ih (by omega)
      rw [vecV] at ih
      refine g_aload_n dX2_makeVector_25 rfl ?_
      refine g_getr (j := 0) dX2_makeVector_26 gc2 rfl (by decide) rfl (by decide) fl_L_21 ?_
      refine g_iload dX2_makeVector_29 rfl ?_
      refine g_call1 dX2_makeVector_31 clB_isHere ml_L_38 gc0 rfl rfl (by decide) (Nat.le_of_ble_eq_true rfl) ?_
      refine SB_isHere hB' (by omega) ?_
      refine g_if_ne_b 40 dX2_makeVector_34 (by decide) (fun c34 => ?_) (fun c34 => ?_)
      · rw [if_pos c34, cnt_t c34] at ih
        refine g_aload_n dX2_makeVector_40 rfl ?_
        refine g_iload dX2_makeVector_41 rfl ?_
        refine g_aload_n dX2_makeVector_43 rfl ?_
        refine g_getr (j := 0) dX2_makeVector_44 gc2 rfl (by decide) rfl (by decide) fl_L_21 ?_
        refine g_aload_n dX2_makeVector_47 rfl ?_
        refine g_iload dX2_makeVector_48 rfl ?_
        refine g_iload_n dX2_makeVector_50 rfl ?_
        refine g_call3 dX2_makeVector_51 clB_loadBy ml_L_42 gc0 rfl rfl (by decide) (Nat.le_of_ble_eq_true rfl) ?_
        refine SB_loadBy_2 hB' g (fun j hj => by rw [hE 2 (by decide)]; exact hg j hj) hg8 (by omega) hk ?_
        refine g_calls3 dX2_makeVector_54 clL_insertFalling ml_L_46 (Nat.le_of_ble_eq_true rfl) ?_
        refine SL_insert_28 hcn (loadF_le hB.wf g hk (by omega)) hv (vecV_le hB.wf g hk (by omega)) (fun M2 hE2 hv2 => ?_)
        first | refine g_incn6_4 dX2_makeVector_57 ki_1 (by decide) rfl ?_ | refine g_incg6_4 (nI 1) dX2_makeVector_57 ki_1 (by decide) rfl ?_
        first | refine g_incn6_5 dX2_makeVector_60 ki_1 (by decide) rfl ?_ | refine g_incg6_5 (nI 1) dX2_makeVector_60 ki_1 (by decide) rfl ?_
        refine g_goto 6 dX2_makeVector_63 (by decide) ?_
        exact ih M2 (hE.tr hE2) hv2
      · rw [if_neg (by rw [c34]; decide), cnt_f c34] at ih
        refine g_goto 60 dX2_makeVector_37 (by decide) ?_
        first | refine g_incn6_5 dX2_makeVector_60 ki_1 (by decide) rfl ?_ | refine g_incg6_5 (nI 1) dX2_makeVector_60 ki_1 (by decide) rfl ?_
        refine g_goto 6 dX2_makeVector_63 (by decide) ?_
        exact ih M' hE hv
theorem SL_make_29 {d : Nat} {M : Mm} {S : BS} {Q : Po} (hB : BK M S) (g : Nat → Nat) (hg : ∀ i, i < S 1 0 0 → M 49 i = hv (g i)) (hg8 : ∀ i, i < S 1 0 0 → g i ≤ 8) {k : Nat} (hk : k < 4) (h : ∀ M', EqO [29] M M' → (∀ j, j < cnt (hr S) (S 0 0 0) → M' 29 j = nI (vecV S g k (S 0 0 0) j)) → Q M' (some (.int (nI (cnt (hr S) (S 0 0 0)))))) : Call (d + 4) mL_makeVector [.ref 27, .ref 29, .ref 49, .int (nI k)] M Q := by
  have hw := hB.wf.np
  refine Call_of (m := mL_makeVector) [some (.ref 27), some (.ref 29), some (.ref 49), some (.int (nI k)), none, none] rfl (fun G => Nat.le_of_ble_eq_true rfl) (fun G => rfl) ?_
  refine g_iconst (nI 0) dX2_makeVector_0 ki_0 ?_
  refine g_ist6_4 dX2_makeVector_1 (by decide) rfl ?_
  refine g_iconst (nI 0) dX2_makeVector_3 ki_0 ?_
  refine g_ist6_5 dX2_makeVector_4 (by decide) rfl ?_
  refine loop_up (P := fun i => ∀ M', EqO [29] M M' → (∀ j, j < cnt (hr S) i → M' 29 j = nI (vecV S g k i j)) → Go mL_makeVector (d + 4) Q 6 [some (.ref 27), some (.ref 29), some (.ref 49), some (.int (nI k)), some (.int (nI (cnt (hr S) i))), some (.int (nI i))] [] M') (S 0 0 0) ?_ 0 (Nat.zero_le _) M EqO.rf (fun j hj => absurd hj (by rw [cnt]; omega))
  intro i hi ih M' hE hv
  have hB' := hB.eqO hE (by decide)
  have hcl := cnt_le (hr S) i
  refine g_iload dX2_makeVector_6 rfl ?_
  refine g_aload_n dX2_makeVector_8 rfl ?_
  refine g_getr (j := 0) dX2_makeVector_9 gc2 rfl (by decide) rfl (by decide) fl_L_21 ?_
  refine g_geti (j := 0) dX2_makeVector_12 gc0 rfl (by decide) rfl (by decide) fl_L_34 ?_
  try simp (disch := omega) only [hB'.np]
  refine g_icmp_ge_n 66 dX2_makeVector_15 (by decide) (by omega) (by omega) (fun c15 => ?_) (fun c15 => ?_)
  · refine g_iload dX2_makeVector_66 rfl ?_
    refine g_ireturn dX2_makeVector_68 rfl (by first | rfl | exact nar_bI _) ?_
    rw [show i = S 0 0 0 by omega] at hv ⊢
    exact h M' hE hv
  · have hcn : cnt (hr S) i < 8 := by omega
    refine g_iload dX2_makeVector_18 rfl ?_
    refine g_aload_n dX2_makeVector_20 rfl ?_
    refine g_alen dX2_makeVector_21 (by first | rfl | assumption) (by first | decide | assumption) ?_
    refine g_icmp_ge_n 66 dX2_makeVector_22 (by decide) (by omega) (by omega) (fun c22 => ?_) (fun c22 => ?_)
    · exact absurd hcn (by omega)
    · have ih := ih (by omega)
      rw [vecV] at ih
      refine g_aload_n dX2_makeVector_25 rfl ?_
      refine g_getr (j := 0) dX2_makeVector_26 gc2 rfl (by decide) rfl (by decide) fl_L_21 ?_
      refine g_iload dX2_makeVector_29 rfl ?_
      refine g_call1 dX2_makeVector_31 clB_isHere ml_L_38 gc0 rfl rfl (by decide) (Nat.le_of_ble_eq_true rfl) ?_
      refine SB_isHere hB' (by omega) ?_
      refine g_if_ne_b 40 dX2_makeVector_34 (by decide) (fun c34 => ?_) (fun c34 => ?_)
      · rw [if_pos c34, cnt_t c34] at ih
        refine g_aload_n dX2_makeVector_40 rfl ?_
        refine g_iload dX2_makeVector_41 rfl ?_
        refine g_aload_n dX2_makeVector_43 rfl ?_
        refine g_getr (j := 0) dX2_makeVector_44 gc2 rfl (by decide) rfl (by decide) fl_L_21 ?_
        refine g_aload_n dX2_makeVector_47 rfl ?_
        refine g_iload dX2_makeVector_48 rfl ?_
        refine g_iload_n dX2_makeVector_50 rfl ?_
        refine g_call3 dX2_makeVector_51 clB_loadBy ml_L_42 gc0 rfl rfl (by decide) (Nat.le_of_ble_eq_true rfl) ?_
        refine SB_loadBy_49 hB' g (fun j hj => by rw [hE 49 (by decide)]; exact hg j hj) hg8 (by omega) hk ?_
        refine g_calls3 dX2_makeVector_54 clL_insertFalling ml_L_46 (Nat.le_of_ble_eq_true rfl) ?_
        refine SL_insert_29 hcn (loadF_le hB.wf g hk (by omega)) hv (vecV_le hB.wf g hk (by omega)) (fun M2 hE2 hv2 => ?_)
        first | refine g_incn6_4 dX2_makeVector_57 ki_1 (by decide) rfl ?_ | refine g_incg6_4 (nI 1) dX2_makeVector_57 ki_1 (by decide) rfl ?_
        first | refine g_incn6_5 dX2_makeVector_60 ki_1 (by decide) rfl ?_ | refine g_incg6_5 (nI 1) dX2_makeVector_60 ki_1 (by decide) rfl ?_
        refine g_goto 6 dX2_makeVector_63 (by decide) ?_
        exact ih M2 (hE.tr hE2) hv2
      · rw [if_neg (by rw [c34]; decide), cnt_f c34] at ih
        refine g_goto 60 dX2_makeVector_37 (by decide) ?_
        first | refine g_incn6_5 dX2_makeVector_60 ki_1 (by decide) rfl ?_ | refine g_incg6_5 (nI 1) dX2_makeVector_60 ki_1 (by decide) rfl ?_
        refine g_goto 6 dX2_makeVector_63 (by decide) ?_
        exact ih M' hE hv
