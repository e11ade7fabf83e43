/-! BOOK: a YEAR is closed, copies -/
def cloI (S : BS) (n k : Nat) : BS := fun a b c => if a = 5 ∧ c < 4 ∧ (b < n ∨ (b = n ∧ c < k)) then min (S 5 b c + heldN S b c) 999 else S a b c
theorem cloI_oth {S : BS} {n k a : Nat} (h : a ≠ 5) : cloI S n k a = S a := by funext b c; unfold cloI; rw [if_neg (fun q => h q.1)]
theorem BKpast {M M' : Mm} {S S' : BS} (hB : BK M S) (hM : ∀ k, k ≠ 5 → M' k = M k) (hS : ∀ a, a ≠ 5 → S' a = S a) (h5 : ∀ p k, p < S 0 0 0 → k < 4 → M' 5 (p * 4 + k) = nI (S' 5 p k)) (h9 : ∀ p k, p < 8 → k < 4 → S' 5 p k ≤ 999) : BK M' S' := by
  have h0 := hS 0 (by decide)
  have h1 := hS 1 (by decide)
  have h10 := hS 10 (by decide)
  have h4 := hS 4 (by decide)
  have hsd : ∀ k, sd S' k = sd S k := fun k => by simp only [sd, h1, h10]
  obtain ⟨w, a1, a2, a3, a4, a5, a6, a7, a8, a9, a10, a11⟩ := hB
  refine ⟨?_, ?_, ?_, ?_, ?_, ?_, ?_, ?_, ?_, ?_, ?_, ?_⟩
  · obtain ⟨b1, b2, b3, b4, b5, b6, b7, b8, b9, b10, b11⟩ := w
    simp only [WF, h0, h1, h4, hS 3 (by decide), hS 6 (by decide), hS 7 (by decide), hS 8 (by decide), hS 9 (by decide), h10, hS 11 (by decide), hS 12 (by decide), hS 13 (by decide)]
    exact ⟨b1, b2, b3, b4, b5, h9, b7, b8, b9, b10, b11⟩
  · rw [hM 1 (by decide)]; simp only [h0]; exact a1
  · rw [hM 1 (by decide)]; simp only [h1]; exact a2
  · rw [hM 1 (by decide)]; simp only [hS 2 (by decide)]; exact a3
  · rw [hM 2 (by decide)]; simp only [h1, hS 12 (by decide)]; exact a4
  · rw [hM 3 (by decide)]; simp only [h0, hS 3 (by decide)]; exact a5
  · rw [hM 4 (by decide)]; simp only [hr, h4]; exact a6
  · simp only [h0]; exact h5
  · rw [hM 6 (by decide)]; simp only [h0, hS 6 (by decide)]; exact a8
  · rw [hM 7 (by decide), hM 8 (by decide), hM 9 (by decide)]; simp only [h0, hS 6 (by decide), hS 7 (by decide), hS 8 (by decide), hS 9 (by decide)]; exact a9
  · rw [hM 10 (by decide), hM 11 (by decide), hM 12 (by decide)]; simp only [h1, h10, hS 11 (by decide), hsd]; exact a10
  · rw [hM 13 (by decide)]; simp only [h0, hS 13 (by decide)]; exact a11
theorem BKpast1 {M : Mm} {S : BS} (hB : BK M S) {p k v : Nat} (hp : p < S 0 0 0) (hk : k < 4) (hv : v ≤ 999) : BK (mset M 5 (p * 4 + k) (nI v)) (up S 5 p k v) := by
  have hw := hB.wf.np
  refine BKpast hB (fun k hk => mset_ne hk) (fun a ha => ?_) (fun q j hq hj => ?_) (fun q j hq hj => ?_)
  · funext b c; exact up_off (fun q => ha q.1)
  · by_cases e2 : q = p ∧ j = k
    · obtain ⟨rfl, rfl⟩ := e2; rw [mset_at, up_at]
    · rw [mset_off (by omega), up_off (by omega)]; exact hB.ps hq hj
  · by_cases e2 : q = p ∧ j = k
    · obtain ⟨rfl, rfl⟩ := e2; rw [up_at]; exact hv
    · rw [up_off (by omega)]; exact hB.wf.ps hq hj
theorem cloI_held (S : BS) (n k p j : Nat) : heldN (cloI S n k) p j = heldN S p j := by
  simp only [heldN, heldF, cloI_oth (show (1 : Nat) ≠ 5 by decide), cloI_oth (show (11 : Nat) ≠ 5 by decide), cloI_oth (show (12 : Nat) ≠ 5 by decide)]
theorem cloI_step (S : BS) (n k : Nat) (hk : k < 4) : cloI S n (k + 1) = up (cloI S n k) 5 n k (min (S 5 n k + heldN S n k) 999) := by
  funext a b c
  by_cases q : a = 5 ∧ b = n ∧ c = k
  · obtain ⟨rfl, rfl, rfl⟩ := q
    rw [up_at]
    unfold cloI
    rw [if_pos ⟨rfl, hk, Or.inr ⟨rfl, by omega⟩⟩]
  · rw [up_off q]
    unfold cloI
    by_cases z : a = 5 ∧ c < 4 ∧ (b < n ∨ (b = n ∧ c < k))
    · rw [if_pos z, if_pos ⟨z.1, z.2.1, by omega⟩]
    · rw [if_neg z, if_neg (by omega)]
theorem nI_min (a b : Nat) (ha : a < 2 ^ 31) (hb : b < 2 ^ 31) : (if nI b < nI a then nI b else nI a) = nI (min a b) := by
  by_cases h : b < a
  · rw [if_pos ((nI_ltI hb ha).mpr h), Nat.min_eq_right (by omega)]
  · rw [if_neg (fun q => h ((nI_ltI hb ha).mp q)), Nat.min_eq_left (by omega)]
/-- the state behind a closed YEAR -/
def cloS (S : BS) : BS := fun a b c => if a = 1 then 0 else if a = 2 then S 2 0 0 + 1 else if a = 5 ∧ b < S 0 0 0 ∧ c < 4 then min (S 5 b c + heldN S b c) 999 else if a = 13 then 0 else S a b c
theorem BKclose {M M' : Mm} {S : BS} (hB : BK M S) (h1 : M' 1 1 = nI 0) (h2 : M' 1 2 = nI (S 2 0 0 + 1)) (h0 : M' 1 0 = nI (S 0 0 0)) (h5 : ∀ p k, p < S 0 0 0 → k < 4 → M' 5 (p * 4 + k) = nI (min (S 5 p k + heldN S p k) 999)) (h13 : ∀ j, j < 192 → M' 13 j = nI 0) (hk : ∀ k, k ≠ 1 → k ≠ 5 → k ≠ 13 → M' k = M k) : BK M' (cloS S) := by
  have o : ∀ {a b c : Nat}, a ≠ 1 → a ≠ 2 → a ≠ 5 → a ≠ 13 → cloS S a b c = S a b c := fun h1 h2 h5 h13 => by
    unfold cloS; rw [if_neg h1, if_neg h2, if_neg (fun q => h5 q.1), if_neg h13]
  have o1 : cloS S 1 0 0 = 0 := rfl
  have o2 : cloS S 2 0 0 = S 2 0 0 + 1 := rfl
  have o5 : ∀ p k, p < S 0 0 0 → k < 4 → cloS S 5 p k = min (S 5 p k + heldN S p k) 999 := fun p k hp hk => by
    unfold cloS; rw [if_neg (by decide), if_neg (by decide), if_pos ⟨rfl, hp, hk⟩]
  have o13 : ∀ p d, cloS S 13 p d = 0 := fun p d => by
    unfold cloS; rw [if_neg (by decide), if_neg (by decide), if_neg (fun q => absurd q.1 (by decide)), if_pos rfl]
  have o0 : cloS S 0 0 0 = S 0 0 0 := o (by decide) (by decide) (by decide) (by decide)
  have hw := hB.wf.np
  refine ⟨⟨?_, ?_, fun p hp => ?_, fun p hp => ?_, fun p hp => ?_, fun p k hp hk => ?_, fun p hp => ?_, fun p q hp hq => ?_, fun e he => ?_, fun p d hp hd => ?_, fun p d hd => ?_⟩, ?_, ?_, ?_, fun e he => ?_, fun p hp => ?_, fun p hp => ?_, fun p k hp hk4 => ?_, fun p hp => ?_, fun p q hp hq => ?_, fun e he => ?_, fun p e hp he => ?_⟩
  · rw [o0]; exact hw
  · rw [o1]; omega
  · rw [o (by decide) (by decide) (by decide) (by decide)]; exact hB.wf.hN hp
  · rw [o0] at hp; rw [o (by decide) (by decide) (by decide) (by decide)]; exact hB.wf.out hp
  · rw [o (by decide) (by decide) (by decide) (by decide)]; exact hB.wf.rk hp
  · rcases Nat.lt_or_ge p (S 0 0 0) with z | z
    · rw [o5 p k z hk]; exact Nat.min_le_right _ _
    · have : cloS S 5 p k = S 5 p k := by
        unfold cloS; rw [if_neg (by decide), if_neg (by decide), if_neg (by omega), if_neg (by decide)]
      rw [this]; exact hB.wf.ps hp hk
  · rw [o (by decide) (by decide) (by decide) (by decide)]; exact hB.wf.nr hp
  · rw [o (a := 7) (by decide) (by decide) (by decide) (by decide), o (a := 8) (by decide) (by decide) (by decide) (by decide), o (a := 9) (by decide) (by decide) (by decide) (by decide)]; exact hB.wf.rl hp hq
  · rw [o (a := 10) (by decide) (by decide) (by decide) (by decide), o (a := 11) (by decide) (by decide) (by decide) (by decide), o (a := 12) (by decide) (by decide) (by decide) (by decide)]; exact hB.wf.dk he
  · rw [o13]; omega
  · rw [o13]
  · rw [o0]; exact h0
  · rw [o1]; exact h1
  · rw [o2]; exact h2
  · rw [o1] at he; omega
  · rw [o0] at hp
    rw [o (by decide) (by decide) (by decide) (by decide), hk 3 (by decide) (by decide) (by decide)]; exact hB.rk hp
  · unfold hr
    rw [o (by decide) (by decide) (by decide) (by decide), hk 4 (by decide) (by decide) (by decide)]; exact hB.here hp
  · rw [o0] at hp
    rw [o5 p k hp hk4]; exact h5 p k hp hk4
  · rw [o0] at hp
    rw [o (by decide) (by decide) (by decide) (by decide), hk 6 (by decide) (by decide) (by decide)]; exact hB.nr hp
  · rw [o0] at hp
    rw [o (a := 6) (by decide) (by decide) (by decide) (by decide)] at hq
    rw [o (a := 7) (by decide) (by decide) (by decide) (by decide), o (a := 8) (by decide) (by decide) (by decide) (by decide), o (a := 9) (by decide) (by decide) (by decide) (by decide), hk 7 (by decide) (by decide) (by decide), hk 8 (by decide) (by decide) (by decide), hk 9 (by decide) (by decide) (by decide)]
    exact ⟨hB.rs hp hq, hB.ra hp hq, hB.rb hp hq⟩
  · rw [o1] at he; omega
  · rw [o0] at hp
    rw [o13]; exact h13 _ (by omega)
/-- fewer locals known -/
def subL : Lv → Lv → Prop
  | [], _ => True
  | none :: l', _ :: l => subL l' l
  | some v :: l', o :: l => o = some v ∧ subL l' l
  | none :: l', [] => subL l' []
  | some _ :: _, [] => False
theorem subL_get : ∀ {l' l : Lv}, subL l' l → ∀ (k : Nat) (v : Value), l'[k]? = some (some v) → l[k]? = some (some v)
  | [], _, _, k, v, h => by simp at h
  | none :: l', _ :: l, hs, 0, v, h => by simp at h
  | none :: l', _ :: l, hs, k + 1, v, h => by
    rw [List.getElem?_cons_succ] at h ⊢
    exact subL_get (l' := l') (l := l) hs k v h
  | some w :: l', o :: l, hs, 0, v, h => by
    rw [List.getElem?_cons_zero] at h ⊢
    rw [hs.1]; exact h
  | some w :: l', o :: l, hs, k + 1, v, h => by
    rw [List.getElem?_cons_succ] at h ⊢
    exact subL_get (l' := l') (l := l) hs.2 k v h
  | none :: l', [], hs, 0, v, h => by simp at h
  | none :: l', [], hs, k + 1, v, h => by
    rw [List.getElem?_cons_succ] at h
    have := subL_get (l' := l') (l := []) hs k v h
    simp at this
  | some w :: l', [], hs, k, v, h => by cases hs
theorem Go_sub {m : Me} {d : Nat} {Q : Po} {pc : Nat} {ls : Lv} {st : St} {M : Mm} (ls' : Lv) (hs : subL ls' ls) (h : Go m d Q pc ls' st M) : Go m d Q pc ls st M := by
  intro p l e s mi args below meth c G sz hF hK hS hz H locs arr hP hD hFr hl
  refine h p l e s mi args below meth c G sz hF hK hS hz H locs arr hP hD hFr ⟨hl.1, hl.2.1, fun q hq => ?_⟩
  obtain ⟨v, h1, h2⟩ := lvl_inv hq
  obtain ⟨q1, q2⟩ := q
  dsimp only at h1 h2 ⊢
  subst h2
  exact hl.2.2 (q1, cv G v) (lvl_mem (subL_get hs q1 v h1))
theorem SB_closeYear {d : Nat} {M : Mm} {S : BS} {Q : Po} (hB : BK M S) (h : ∀ M', EqO [1, 5, 13] M M' → BK M' (cloS S) → Q M' none) : Call (d + 3) mB_closeYear [.ref 1] M Q := by
  have hw := hB.wf.np
  have e0 : ∀ n k, cloI S n k 0 0 0 = S 0 0 0 := fun n k => by rw [cloI_oth (by decide)]
  refine Call_of (m := mB_closeYear) [some (.ref 1), none, none, none] rfl (fun G => Nat.le_of_ble_eq_true rfl) (fun G => rfl) ?_
  refine g_iconst (nI 0) dX0_closeYear_0 ki_0 ?_
  refine g_ist4_1 dX0_closeYear_1 (by decide) rfl ?_
  refine loop_up (P := fun i => ∀ M', EqO [5] M M' → BK M' (cloI S i 0) → Go mB_closeYear (d + 3) Q 2 [some (.ref 1), some (.int (nI i)), none, none] [] M') (S 0 0 0) ?_ 0 (Nat.zero_le _) M EqO.rf ?_
  rotate_left
  · rw [show cloI S 0 0 = S from ?_]
    · exact hB
    · funext a b c; unfold cloI; rw [if_neg (by omega)]
  intro i hi ih M' hE hB'
  refine g_iload_n dX0_closeYear_2 rfl ?_
  refine g_aload_n dX0_closeYear_3 rfl ?_
  refine g_geti (j := 0) dX0_closeYear_4 gc0 rfl (by decide) rfl (by decide) fl_B_49 ?_
  try simp (disch := omega) only [hB'.np, e0]
  refine g_icmp_ge_n 60 dX0_closeYear_7 (by decide) (by omega) (by omega) (fun c7 => ?_) (fun c7 => ?_)
  · obtain rfl : i = S 0 0 0 := by omega
    refine g_iconst (nI 0) dX0_closeYear_60 ki_0 ?_
    refine g_ist4_1 dX0_closeYear_61 (by decide) rfl ?_
    refine loop_up (P := fun j => ∀ M2, (∀ k, k ≠ 13 → M2 k = M' k) → (∀ e, e < j → M2 13 e = nI 0) → Go mB_closeYear (d + 3) Q 62 [some (.ref 1), some (.int (nI j)), none, none] [] M2) 192 ?_ 0 (Nat.zero_le _) M' (fun _ _ => rfl) (fun e he => absurd he (by omega))
    intro j hj jh M2 h2 h13
    refine g_iload_n dX0_closeYear_62 rfl ?_
    refine g_aload_n dX0_closeYear_63 rfl ?_
    refine g_getr (j := 14) dX0_closeYear_64 gc0 rfl (by decide) rfl (by decide) fl_B_46 ?_
    refine g_alen dX0_closeYear_67 (by first | rfl | assumption) (by first | decide | assumption) ?_
    refine g_icmp_ge_n 84 dX0_closeYear_68 (by decide) (by omega) (by omega) (fun c68 => ?_) (fun c68 => ?_)
    · have ey : M2 1 2 = nI (S 2 0 0) := by
        rw [h2 1 (by decide)]
        have := hB'.yr
        rw [cloI_oth (by decide)] at this
        exact this
      refine g_aload_n dX0_closeYear_84 rfl ?_
      refine g_iconst (nI 0) dX0_closeYear_85 ki_0 ?_
      refine g_puti (j := 1) dX0_closeYear_86 gc0 rfl (by decide) rfl (by decide) fl_B_53 rfl (tyX0_ok 1 (by decide)) (by first | rfl | exact nar_bI _) rfl ?_
      refine g_aload_n dX0_closeYear_89 rfl ?_
      refine g_dup dX0_closeYear_90 rfl ?_
      refine g_geti (j := 2) dX0_closeYear_91 gc0 rfl (by decide) rfl (by decide) fl_B_139 ?_
      try simp (disch := omega) only [mset_off, ey]
      refine g_iconst (nI 1) dX0_closeYear_94 ki_1 ?_
      first | refine g_iadd_n dX0_closeYear_95 ?_ | refine g_iadd dX0_closeYear_95 ?_
      refine g_puti (j := 2) dX0_closeYear_96 gc0 rfl (by decide) rfl (by decide) fl_B_139 rfl (tyX0_ok 2 (by decide)) (by first | rfl | exact nar_bI _) rfl ?_
      refine g_return dX0_closeYear_99 rfl ?_
      refine h _ ?_ (BKclose hB ?_ ?_ ?_ ?_ ?_ ?_)
      · intro k hk
        have n1 : k ≠ 1 := fun e => hk (by subst e; decide)
        rw [mset_ne n1, mset_ne n1, h2 k (fun e => hk (by subst e; decide)), hE k (fun e => hk (by revert e; simp only [List.mem_cons, List.not_mem_nil, or_false]; intro e; exact Or.inr (Or.inl e)))]
      · rw [mset_off (by omega), mset_at]
      · rw [mset_at]
      · rw [mset_off (by omega), mset_off (by omega), h2 1 (by decide)]
        have := hB'.np
        rw [e0] at this
        exact this
      · intro p k hp hk
        rw [mset_off (by omega), mset_off (by omega), h2 5 (by decide)]
        have := hB'.ps (p := p) (k := k) (by rw [e0]; exact hp) hk
        rw [this]
        unfold cloI
        rw [if_pos ⟨rfl, hk, Or.inl hp⟩]
      · intro e he
        rw [mset_off (by omega), mset_off (by omega)]; exact h13 e (by omega)
      · intro k n1 n5 n13
        rw [mset_ne n1, mset_ne n1, h2 k n13, hE k (by simpa using n5)]
    · refine g_aload_n dX0_closeYear_71 rfl ?_
      refine g_getr (j := 14) dX0_closeYear_72 gc0 rfl (by decide) rfl (by decide) fl_B_46 ?_
      refine g_iload_n dX0_closeYear_75 rfl ?_
      refine g_iconst (nI 0) dX0_closeYear_76 ki_0 ?_
      refine g_iast_n dX0_closeYear_77 (by first | rfl | assumption) (by first | decide | assumption) (by omega) (by omega) ?_
      first | refine g_incn4_1 dX0_closeYear_78 ki_1 (by decide) rfl ?_ | refine g_incg4_1 (nI 1) dX0_closeYear_78 ki_1 (by decide) rfl ?_
      refine g_goto 62 dX0_closeYear_81 (by decide) ?_
      refine jh (by omega) _ (fun k hk => by rw [mset_ne hk]; exact h2 k hk) (fun e he => ?_)
      by_cases e2 : e = j
      · subst e2; rw [mset_at]
      · rw [mset_off (by omega)]; exact h13 e (by omega)
  · refine g_iconst (nI 0) dX0_closeYear_10 ki_0 ?_
    refine g_ist4_2 dX0_closeYear_11 (by decide) rfl ?_
    refine loop_up (P := fun j => ∀ M', EqO [5] M M' → BK M' (cloI S i j) → Go mB_closeYear (d + 3) Q 12 [some (.ref 1), some (.int (nI i)), some (.int (nI j)), none] [] M') 4 ?_ 0 (Nat.zero_le _) M' hE hB'
    intro j hj jh M2 hE2 hB2
    refine g_iload_n dX0_closeYear_12 rfl ?_
    refine g_iconst (nI 4) dX0_closeYear_13 ki_4 ?_
    refine g_icmp_ge_n 54 dX0_closeYear_14 (by decide) (by omega) (by omega) (fun c14 => ?_) (fun c14 => ?_)
    · first | refine g_incn4_1 dX0_closeYear_54 ki_1 (by decide) rfl ?_ | refine g_incg4_1 (nI 1) dX0_closeYear_54 ki_1 (by decide) rfl ?_
      refine g_goto 2 dX0_closeYear_57 (by decide) ?_
      refine Go_sub [some (.ref 1), some (.int (nI (i + 1))), none, none] (by simp [subL]) (ih (by omega) _ hE2 ?_)
      rw [show cloI S (i + 1) 0 = cloI S i j from ?_]
      · exact hB2
      · have : j = 4 := by omega
        subst this
        funext a b c
        unfold cloI
        by_cases z : a = 5 ∧ c < 4 ∧ (b < i ∨ (b = i ∧ c < 4))
        · rw [if_pos z, if_pos (by omega)]
        · rw [if_neg z, if_neg (by omega)]
    · have hps : cloI S i j 5 i j = S 5 i j := by unfold cloI; rw [if_neg (by omega)]
      have hb1 := hB.wf.ps (p := i) (k := j) (by omega) (by omega)
      have hb2 := heldF_le S (fun d => S 12 d 0) i j
      have hb3 := hB.wf.nd
      have hb4 : heldN S i j ≤ 24 := by unfold heldN; omega
      refine g_aload_n dX0_closeYear_17 rfl ?_
      refine g_iload_n dX0_closeYear_18 rfl ?_
      refine g_iload_n dX0_closeYear_19 rfl ?_
      refine g_call2 dX0_closeYear_20 clB_pastOf ml_B_82 gc0 rfl rfl (by decide) (Nat.le_of_ble_eq_true rfl) ?_
      refine SB_pastOf hB2 (by rw [e0]; omega) (by omega) ?_
      refine g_aload_n dX0_closeYear_23 rfl ?_
      refine g_aload_n dX0_closeYear_24 rfl ?_
      refine g_getr (j := 3) dX0_closeYear_25 gc0 rfl (by decide) rfl (by decide) fl_B_9 ?_
      refine g_iload_n dX0_closeYear_28 rfl ?_
      refine g_iload_n dX0_closeYear_29 rfl ?_
      refine g_call3 dX0_closeYear_30 clB_countHeld ml_B_96 gc0 rfl rfl (by decide) (Nat.le_of_ble_eq_true rfl) ?_
      refine SB_countHeldP hB2 (by omega) (by omega) ?_
      rw [cloI_held, hps]
      first | refine g_iadd_n dX0_closeYear_33 ?_ | refine g_iadd dX0_closeYear_33 ?_
      refine g_ist4_3 dX0_closeYear_34 (by decide) rfl ?_
      refine g_aload_n dX0_closeYear_35 rfl ?_
      refine g_iload_n dX0_closeYear_36 rfl ?_
      refine g_iload_n dX0_closeYear_37 rfl ?_
      refine g_iload_n dX0_closeYear_38 rfl ?_
      refine g_sipush (nI 999) dX0_closeYear_39 ks_999 ?_
      refine g_mmin dX0_closeYear_42 mm_B_132 ms_min ti_java_lang_Math mc_min (Nat.le_of_ble_eq_true rfl) ?_
      rw [nI_min _ _ (by omega) (by omega)]
      refine g_call3 dX0_closeYear_45 clB_putPast ml_B_135 gc0 rfl rfl (by decide) (Nat.le_of_ble_eq_true rfl) ?_
      refine SB_putPast hB2 (by rw [e0]; omega) (by omega) ?_
      first | refine g_incn4_2 dX0_closeYear_48 ki_1 (by decide) rfl ?_ | refine g_incg4_2 (nI 1) dX0_closeYear_48 ki_1 (by decide) rfl ?_
      refine g_goto 12 dX0_closeYear_51 (by decide) ?_
      refine Go_sub [some (.ref 1), some (.int (nI i)), some (.int (nI (j + 1))), none] (by simp [subL]) (jh (by omega) _ (hE2.tr (EqO.set (by decide))) ?_)
      rw [cloI_step _ _ _ (by omega)]
      exact BKpast1 hB2 (by rw [e0]; omega) (by omega) (Nat.min_le_right _ _)
