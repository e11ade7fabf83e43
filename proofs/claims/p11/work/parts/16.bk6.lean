/-! BOOK: a DUTY comes, a YEAR is closed, copies -/
theorem pos_congr {f g dyf dyg : Nat → Nat} {v : Nat} : ∀ {n : Nat}, (∀ k, k < n → f k = g k) → (∀ k, k < n → dyf (g k) = dyg (g k)) → pos f dyf v n = pos g dyg v n
  | 0, _, _ => rfl
  | n + 1, h1, h2 => by
    rw [pos, pos, h1 n (by omega), h2 n (by omega), pos_congr (n := n) (fun k hk => h1 k (by omega)) (fun k hk => h2 k (by omega))]
theorem sdF_congr {dyf dyg : Nat → Nat} : ∀ {n : Nat}, (∀ d, d < n → dyf d = dyg d) → ∀ k, k < n → sdF dyf n k = sdF dyg n k
  | 0, _, k, hk => by omega
  | n + 1, h, k, hk => by
    have ih := sdF_congr (n := n) (fun d hd => h d (by omega))
    have hp : pos (sdF dyf n) dyf (dyf n) n = pos (sdF dyg n) dyg (dyg n) n := by
      rw [h n (by omega)]
      exact pos_congr ih (fun j hj => h _ (by have := sdF_lt dyg n j hj; omega))
    have hl := pos_le (sdF dyg n) dyg (dyg n) n
    rw [sdF, sdF]
    unfold insF
    rw [hp]
    split
    · exact ih k (by omega)
    · split
      · rfl
      · exact ih (k - 1) (by omega)
def addD (S : BS) (dd kk : Nat) : BS := fun a b c => if a = 1 then S 1 0 0 + 1 else if a = 10 ∧ b = S 1 0 0 then dd else if a = 11 ∧ b = S 1 0 0 then kk else if a = 12 ∧ b = S 1 0 0 then 8 else S a b c
theorem addD_1 (S : BS) (dd kk : Nat) : addD S dd kk 1 0 0 = S 1 0 0 + 1 := rfl
theorem addD_10 (S : BS) (dd kk c : Nat) : addD S dd kk 10 (S 1 0 0) c = dd := by unfold addD; rw [if_neg (by decide), if_pos ⟨rfl, rfl⟩]
theorem addD_11 (S : BS) (dd kk c : Nat) : addD S dd kk 11 (S 1 0 0) c = kk := by unfold addD; rw [if_neg (by decide), if_neg (fun q => absurd q.1 (by decide)), if_pos ⟨rfl, rfl⟩]
theorem addD_12 (S : BS) (dd kk c : Nat) : addD S dd kk 12 (S 1 0 0) c = 8 := by unfold addD; rw [if_neg (by decide), if_neg (fun q => absurd q.1 (by decide)), if_neg (fun q => absurd q.1 (by decide)), if_pos ⟨rfl, rfl⟩]
theorem addD_old {S : BS} {dd kk a b c : Nat} (ha : a ≠ 1) (hb : b ≠ S 1 0 0) : addD S dd kk a b c = S a b c := by
  unfold addD
  rw [if_neg ha, if_neg (fun q => hb q.2), if_neg (fun q => hb q.2), if_neg (fun q => hb q.2)]
theorem addD_oth {S : BS} {dd kk a b c : Nat} (ha : a ≠ 1) (h10 : a ≠ 10) (h11 : a ≠ 11) (h12 : a ≠ 12) : addD S dd kk a b c = S a b c := by
  unfold addD
  rw [if_neg ha, if_neg (fun q => h10 q.1), if_neg (fun q => h11 q.1), if_neg (fun q => h12 q.1)]
theorem addD_wf {S : BS} (hW : WF S) {dd kk : Nat} (hd : dd ≤ 365) (hk : kk < 4) (hn : S 1 0 0 < 24) : WF (addD S dd kk) := by
  have o : ∀ {a b c : Nat}, a ≠ 1 → a ≠ 10 → a ≠ 11 → a ≠ 12 → addD S dd kk a b c = S a b c := fun h1 h2 h3 h4 => addD_oth h1 h2 h3 h4
  refine ⟨by rw [o (by decide) (by decide) (by decide) (by decide)]; exact hW.np, by rw [addD_1]; omega, fun p hp => ?_, fun p hp => ?_, fun p hp => ?_, fun p k hp hk => ?_, fun p hp => ?_, fun p q hp hq => ?_, fun e he => ?_, fun p d hp hd => ?_, fun p d hd => ?_⟩
  · rw [o (by decide) (by decide) (by decide) (by decide)]; exact hW.hN hp
  · rw [o (by decide) (by decide) (by decide) (by decide)] at hp ⊢; exact hW.out hp
  · rw [o (by decide) (by decide) (by decide) (by decide)]; exact hW.rk hp
  · rw [o (by decide) (by decide) (by decide) (by decide)]; exact hW.ps hp hk
  · rw [o (by decide) (by decide) (by decide) (by decide)]; exact hW.nr hp
  · rw [o (a := 7) (by decide) (by decide) (by decide) (by decide), o (a := 8) (by decide) (by decide) (by decide) (by decide), o (a := 9) (by decide) (by decide) (by decide) (by decide)]; exact hW.rl hp hq
  · by_cases e2 : e = S 1 0 0
    · subst e2; rw [addD_10, addD_11, addD_12]; omega
    · rw [addD_old (a := 10) (by decide) e2, addD_old (a := 11) (by decide) e2, addD_old (a := 12) (by decide) e2]; exact hW.dk he
  · rw [o (by decide) (by decide) (by decide) (by decide)]; exact hW.dl hp hd
  · rw [addD_1] at hd
    rw [o (by decide) (by decide) (by decide) (by decide)]; exact hW.dl0 (by omega)
theorem addD_sd (S : BS) (dd kk : Nat) : ∀ k, k ≤ S 1 0 0 → sd (addD S dd kk) k = insF (fun j => sd S j) (fun e => if e = S 1 0 0 then dd else S 10 e 0) (S 1 0 0) (S 1 0 0) k := by
  intro k hk
  have hdyf : (fun e => addD S dd kk 10 e 0) = fun e => if e = S 1 0 0 then dd else S 10 e 0 := by
    funext e
    by_cases q : e = S 1 0 0
    · subst q; rw [addD_10, if_pos rfl]
    · rw [addD_old (by decide) q, if_neg q]
  simp only [sd, addD_1, hdyf]
  rw [sdF]
  have hc := sdF_congr (dyf := fun e => if e = S 1 0 0 then dd else S 10 e 0) (dyg := fun e => S 10 e 0) (n := S 1 0 0) (fun e he => by rw [if_neg (by omega)])
  have hp : ∀ v, pos (sdF (fun e => if e = S 1 0 0 then dd else S 10 e 0) (S 1 0 0)) (fun e => if e = S 1 0 0 then dd else S 10 e 0) v (S 1 0 0) = pos (fun j => sdF (fun e => S 10 e 0) (S 1 0 0) j) (fun e => if e = S 1 0 0 then dd else S 10 e 0) v (S 1 0 0) := fun v => pos_congr hc (fun _ _ => rfl)
  have hl := pos_le (fun j => sdF (fun e => S 10 e 0) (S 1 0 0) j) (fun e => if e = S 1 0 0 then dd else S 10 e 0) ((fun e => if e = S 1 0 0 then dd else S 10 e 0) (S 1 0 0)) (S 1 0 0)
  unfold insF
  rw [hp]
  split
  · exact hc k (by omega)
  · split
    · rfl
    · exact hc (k - 1) (by omega)
theorem SB_isDutyL {d : Nat} {M : Mm} {Q : Po} {n e : Nat} (h1 : M 1 1 = nI n) (hn : n ≤ 24) (he : e < n) (h : Q M (some (.int (bI true)))) : Call (d + 1) mB_isDuty [.ref 1, .int (nI e)] M Q := by
  refine Call_of (m := mB_isDuty) [some (.ref 1), some (.int (nI e))] rfl (fun G => Nat.le_of_ble_eq_true rfl) (fun G => rfl) ?_
  refine g_iload_n dX0_isDuty_0 rfl ?_
  refine g_if_lt_n 22 dX0_isDuty_1 (by decide) (by omega) ?_
  refine g_iload_n dX0_isDuty_4 rfl ?_
  refine g_aload_n dX0_isDuty_5 rfl ?_
  refine g_geti (j := 1) dX0_isDuty_6 gc0 rfl (by decide) rfl (by decide) fl_B_53 ?_
  try simp (disch := omega) only [h1]
  refine g_icmp_ge_n 22 dX0_isDuty_9 (by decide) (by omega) (by omega) (fun c9 => ?_) (fun c9 => ?_)
  · exact absurd c9 (by omega)
  · refine g_iload_n dX0_isDuty_12 rfl ?_
    refine g_bipush (nI 24) dX0_isDuty_13 kb_24 ?_
    refine g_icmp_ge_n 22 dX0_isDuty_15 (by decide) (by omega) (by omega) (fun c15 => ?_) (fun c15 => ?_)
    · exact absurd c15 (by omega)
    · refine g_iconst (nI 1) dX0_isDuty_18 ki_1 ?_
      refine g_goto 23 dX0_isDuty_19 (by decide) ?_
      refine g_ireturn dX0_isDuty_23 rfl (by first | rfl | exact nar_bI _) ?_
      exact h
theorem SB_dayAtL {d : Nat} {M : Mm} {Q : Po} {n e s v : Nat} (h1 : M 1 1 = nI n) (hn : n ≤ 24) (he : e < n) (h2 : M 12 e = nI s) (hs : s < n) (h3 : M 10 s = nI v) (h : Q M (some (.int (nI v)))) : Call (d + 3) mB_dayAt [.ref 1, .int (nI e)] M Q := by
  refine Call_of (m := mB_dayAt) [some (.ref 1), some (.int (nI e))] rfl (fun G => Nat.le_of_ble_eq_true rfl) (fun G => rfl) ?_
  refine g_aload_n dX0_dayAt_0 rfl ?_
  refine g_aload_n dX0_dayAt_1 rfl ?_
  refine g_iload_n dX0_dayAt_2 rfl ?_
  refine g_call1 dX0_dayAt_3 clB_dutyAt ml_B_115 gc0 rfl rfl (by decide) (Nat.le_of_ble_eq_true rfl) ?_
  have hA : ∀ Q : Po, Q M (some (.int (nI s))) → Call (d + 2) mB_dutyAt [.ref 1, .int (nI e)] M Q := by
    intro Q h
    refine Call_of (m := mB_dutyAt) [some (.ref 1), some (.int (nI e))] rfl (fun G => Nat.le_of_ble_eq_true rfl) (fun G => rfl) ?_
    refine g_aload_n dX0_dutyAt_0 rfl ?_
    refine g_iload_n dX0_dutyAt_1 rfl ?_
    refine g_call1 dX0_dutyAt_2 clB_isDuty ml_B_105 gc0 rfl rfl (by decide) (Nat.le_of_ble_eq_true rfl) ?_
    refine SB_isDutyL h1 hn he ?_
    refine g_if_eq_tt 17 dX0_dutyAt_5 (by decide) ?_
    refine g_aload_n dX0_dutyAt_8 rfl ?_
    refine g_getr (j := 13) dX0_dutyAt_9 gc0 rfl (by decide) rfl (by decide) fl_B_43 ?_
    refine g_iload_n dX0_dutyAt_12 rfl ?_
    refine g_iald_n dX0_dutyAt_13 (by first | rfl | assumption) (by first | decide | assumption) (by omega) (by omega) ?_
    try simp (disch := omega) only [h2]
    refine g_goto 18 dX0_dutyAt_14 (by decide) ?_
    refine g_ireturn dX0_dutyAt_18 rfl (by first | rfl | exact nar_bI _) ?_
    exact h
  refine hA _ ?_
  refine g_call1 dX0_dayAt_6 clB_dayOf ml_B_118 gc0 rfl rfl (by decide) (Nat.le_of_ble_eq_true rfl) ?_
  have hB : ∀ Q : Po, Q M (some (.int (nI v))) → Call (d + 2) mB_dayOf [.ref 1, .int (nI s)] M Q := by
    intro Q h
    refine Call_of (m := mB_dayOf) [some (.ref 1), some (.int (nI s))] rfl (fun G => Nat.le_of_ble_eq_true rfl) (fun G => rfl) ?_
    refine g_aload_n dX0_dayOf_0 rfl ?_
    refine g_iload_n dX0_dayOf_1 rfl ?_
    refine g_call1 dX0_dayOf_2 clB_isDuty ml_B_105 gc0 rfl rfl (by decide) (Nat.le_of_ble_eq_true rfl) ?_
    refine SB_isDutyL h1 hn hs ?_
    refine g_if_eq_tt 17 dX0_dayOf_5 (by decide) ?_
    refine g_aload_n dX0_dayOf_8 rfl ?_
    refine g_getr (j := 11) dX0_dayOf_9 gc0 rfl (by decide) rfl (by decide) fl_B_37 ?_
    refine g_iload_n dX0_dayOf_12 rfl ?_
    refine g_iald_n dX0_dayOf_13 (by first | rfl | assumption) (by first | decide | assumption) (by omega) (by omega) ?_
    try simp (disch := omega) only [h3]
    refine g_goto 18 dX0_dayOf_14 (by decide) ?_
    refine g_ireturn dX0_dayOf_18 rfl (by first | rfl | exact nar_bI _) ?_
    exact h
  refine hB _ ?_
  refine g_ireturn dX0_dayAt_9 rfl (by first | rfl | exact nar_bI _) ?_
  exact h
theorem pos_step {f dyf : Nat → Nat} {v k : Nat} (h : v < dyf (f k)) : pos f dyf v (k + 1) = pos f dyf v k := by rw [pos, if_pos h]
theorem pos_stop {f dyf : Nat → Nat} {v k : Nat} (h : ¬ v < dyf (f k)) : pos f dyf v (k + 1) = k + 1 := by rw [pos, if_neg h]
theorem BKaddD {M M' : Mm} {S : BS} (hB : BK M S) {dd kk : Nat} (hdd : dd ≤ 365) (hkk : kk < 4) (hn : S 1 0 0 < 24) (h1 : M' 1 1 = nI (S 1 0 0 + 1)) (h2 : M' 2 (S 1 0 0) = -1) (h10 : M' 10 (S 1 0 0) = nI dd) (h11 : M' 11 (S 1 0 0) = nI kk) (h12 : ∀ k, k ≤ S 1 0 0 → M' 12 k = nI (insF (fun j => sd S j) (fun e => if e = S 1 0 0 then dd else S 10 e 0) (S 1 0 0) (S 1 0 0) k))
    (hk : ∀ k j, relB S k j → ¬ (k = 1 ∧ j = 1) → k ≠ 12 → M' k j = M k j) : BK M' (addD S dd kk) := by
  have hnr := fun p (hp : p < S 0 0 0) => hB.wf.nr (p := p) (by have := hB.wf.np; omega)
  have o : ∀ {a b c : Nat}, a ≠ 1 → a ≠ 10 → a ≠ 11 → a ≠ 12 → addD S dd kk a b c = S a b c := fun h1 h2 h3 h4 => addD_oth h1 h2 h3 h4
  have o0 : addD S dd kk 0 0 0 = S 0 0 0 := o (by decide) (by decide) (by decide) (by decide)
  refine ⟨addD_wf hB.wf hdd hkk hn, ?_, h1, ?_, fun e he => ?_, fun p hp => ?_, fun p hp => ?_, fun p k hp hk4 => ?_, fun p hp => ?_, fun p q hp hq => ?_, fun e he => ?_, fun p e hp he => ?_⟩
  · rw [o0, hk 1 0 (relB_1 (by omega)) (by omega) (by omega)]; exact hB.np
  · rw [o (a := 2) (by decide) (by decide) (by decide) (by decide), hk 1 2 (relB_1 (by omega)) (by omega) (by omega)]; exact hB.yr
  · rw [addD_1] at he
    by_cases e2 : e = S 1 0 0
    · subst e2; rw [addD_12, h2]; rfl
    · rw [addD_old (by decide) e2, hk 2 e (relB_2 (by omega)) (by omega) (by omega)]; exact hB.ho (by omega)
  · rw [o0] at hp
    rw [o (a := 3) (by decide) (by decide) (by decide) (by decide), hk 3 p (relB_3 (by omega)) (by omega) (by omega)]; exact hB.rk hp
  · unfold hr
    rw [o (a := 4) (by decide) (by decide) (by decide) (by decide), hk 4 p (relB_4 (by omega)) (by omega) (by omega)]; exact hB.here hp
  · rw [o0] at hp
    rw [o (a := 5) (by decide) (by decide) (by decide) (by decide), hk 5 _ (relB_5 (by omega)) (by omega) (by omega)]; exact hB.ps hp hk4
  · rw [o0] at hp
    rw [o (a := 6) (by decide) (by decide) (by decide) (by decide), hk 6 p (relB_6 (by omega)) (by omega) (by omega)]; exact hB.nr hp
  · rw [o0] at hp
    rw [o (a := 6) (by decide) (by decide) (by decide) (by decide)] at hq
    have := hnr p hp
    rw [o (a := 7) (by decide) (by decide) (by decide) (by decide), o (a := 8) (by decide) (by decide) (by decide) (by decide), o (a := 9) (by decide) (by decide) (by decide) (by decide), hk 7 _ (relB_7 (by omega)) (by omega) (by omega), hk 8 _ (relB_8 (by omega)) (by omega) (by omega), hk 9 _ (relB_9 (by omega)) (by omega) (by omega)]
    exact ⟨hB.rs hp hq, hB.ra hp hq, hB.rb hp hq⟩
  · rw [addD_1] at he
    rw [h12 e (by omega), addD_sd S dd kk e (by omega)]
    by_cases e2 : e = S 1 0 0
    · subst e2; rw [addD_10, addD_11]; exact ⟨h10, h11, rfl⟩
    · rw [addD_old (a := 10) (by decide) e2, addD_old (a := 11) (by decide) e2, hk 10 e (relB_10 (by omega)) (by omega) (by omega), hk 11 e (relB_11 (by omega)) (by omega) (by omega)]
      exact ⟨hB.dy (by omega), hB.kd (by omega), rfl⟩
  · rw [o0] at hp
    rw [o (a := 13) (by decide) (by decide) (by decide) (by decide), hk 13 _ (relB_13 (by omega)) (by omega) (by omega)]; exact hB.dl hp he
theorem SB_addDuty {d : Nat} {M : Mm} {S : BS} {Q : Po} (hB : BK M S) {dd kk : Nat} (hdd : dd ≤ 365) (hkk : kk < 4) (hn : S 1 0 0 < 24) (h : ∀ M', EqO [1, 2, 10, 11, 12] M M' → BK M' (addD S dd kk) → Q M' (some (.int (nI (S 1 0 0))))) : Call (d + 4) mB_addDuty [.ref 1, .int (nI dd), .int (nI kk)] M Q := by
  have hw := hB.wf.nd
  have hM1 := hB.nd
  refine Call_of (m := mB_addDuty) [some (.ref 1), some (.int (nI dd)), some (.int (nI kk)), none, none] rfl (fun G => Nat.le_of_ble_eq_true rfl) (fun G => rfl) ?_
  refine g_aload_n dX0_addDuty_0 rfl ?_
  refine g_geti (j := 1) dX0_addDuty_1 gc0 rfl (by decide) rfl (by decide) fl_B_53 ?_
  try simp (disch := omega) only [hB.nd]
  refine g_ist5_3 dX0_addDuty_4 (by decide) rfl ?_
  refine g_iload_n dX0_addDuty_5 rfl ?_
  refine g_if_lt_n 15 dX0_addDuty_6 (by decide) (by omega) ?_
  refine g_iload_n dX0_addDuty_9 rfl ?_
  refine g_bipush (nI 24) dX0_addDuty_10 kb_24 ?_
  refine g_icmp_lt_n 18 dX0_addDuty_12 (by decide) (by omega) (by omega) (fun c12 => ?_) (fun c12 => ?_)
  rotate_left
  · exact absurd c12 (by omega)
  refine g_aload_n dX0_addDuty_18 rfl ?_
  refine g_getr (j := 11) dX0_addDuty_19 gc0 rfl (by decide) rfl (by decide) fl_B_37 ?_
  refine g_iload_n dX0_addDuty_22 rfl ?_
  refine g_iload_n dX0_addDuty_23 rfl ?_
  refine g_iast_n dX0_addDuty_24 (by first | rfl | assumption) (by first | decide | assumption) (by omega) (by omega) ?_
  refine g_aload_n dX0_addDuty_25 rfl ?_
  refine g_getr (j := 12) dX0_addDuty_26 gc0 rfl (by decide) rfl (by decide) fl_B_40 ?_
  refine g_iload_n dX0_addDuty_29 rfl ?_
  refine g_iload_n dX0_addDuty_30 rfl ?_
  refine g_iast_n dX0_addDuty_31 (by first | rfl | assumption) (by first | decide | assumption) (by omega) (by omega) ?_
  refine g_aload_n dX0_addDuty_32 rfl ?_
  refine g_getr (j := 3) dX0_addDuty_33 gc0 rfl (by decide) rfl (by decide) fl_B_9 ?_
  refine g_iload_n dX0_addDuty_36 rfl ?_
  refine g_iconst ((-1)) dX0_addDuty_37 ki_m1 ?_
  refine g_iast_n dX0_addDuty_38 (by first | rfl | assumption) (by first | decide | assumption) (by omega) (by omega) ?_
  refine g_iload_n dX0_addDuty_39 rfl ?_
  refine g_ist5_4 dX0_addDuty_40 (by decide) rfl ?_
  generalize hM0 : mset (mset (mset M 10 (S 1 0 0) (nI dd)) 11 (S 1 0 0) (nI kk)) 2 (S 1 0 0) (-1) = M0
  have k1 : M0 1 1 = nI (S 1 0 0) := by rw [← hM0, mset_off (by omega), mset_off (by omega), mset_off (by omega)]; exact hM1
  have k10 : ∀ s, s < S 1 0 0 → M0 10 s = nI (S 10 s 0) := fun s hs => by rw [← hM0, mset_off (by omega), mset_off (by omega), mset_off (by omega)]; exact hB.dy hs
  have k12 : ∀ s, s < S 1 0 0 → M0 12 s = nI (sd S s) := fun s hs => by rw [← hM0, mset_off (by omega), mset_off (by omega), mset_off (by omega)]; exact hB.st hs
  have hdyf : ∀ i, i < S 1 0 0 → (if sd S i = S 1 0 0 then dd else S 10 (sd S i) 0) = S 10 (sd S i) 0 := fun i hi => by
    have := sd_lt (S := S) (k := i) hi
    rw [if_neg (by omega)]
  suffices hloop : ∀ i, i ≤ S 1 0 0 → ∀ M', (∀ k, k ≠ 12 → M' k = M0 k) → (∀ j, j < i → M' 12 j = nI (sd S j)) → (∀ j, i < j → j ≤ S 1 0 0 → M' 12 j = nI (sd S (j - 1))) → pos (fun j => sd S j) (fun e => if e = S 1 0 0 then dd else S 10 e 0) dd (S 1 0 0) = pos (fun j => sd S j) (fun e => if e = S 1 0 0 then dd else S 10 e 0) dd i → Go mB_addDuty (d + 4) Q 42 [some (.ref 1), some (.int (nI dd)), some (.int (nI kk)), some (.int (nI (S 1 0 0))), some (.int (nI i))] [] M' by
    exact hloop (S 1 0 0) (Nat.le_refl _) M0 (fun _ _ => rfl) k12 (fun j h1 h2 => absurd h2 (by omega)) rfl
  intro i
  induction i with
  | zero =>
    intro hi M' hE hlo hhi hpos
    have e1 : M' 1 1 = nI (S 1 0 0) := by rw [hE 1 (by decide)]; exact k1
    refine g_iload dX0_addDuty_42 rfl ?_
    refine g_if_le_n 81 dX0_addDuty_44 (by decide) (by omega) (fun c44 => ?_) (fun c44 => ?_)
    · refine g_aload_n dX0_addDuty_81 rfl ?_
      refine g_getr (j := 13) dX0_addDuty_82 gc0 rfl (by decide) rfl (by decide) fl_B_43 ?_
      refine g_iload dX0_addDuty_85 rfl ?_
      refine g_iload_n dX0_addDuty_87 rfl ?_
      refine g_iast_n dX0_addDuty_88 (by first | rfl | assumption) (by first | decide | assumption) (by omega) (by omega) ?_
      refine g_aload_n dX0_addDuty_89 rfl ?_
      refine g_dup dX0_addDuty_90 rfl ?_
      refine g_geti (j := 1) dX0_addDuty_91 gc0 rfl (by decide) rfl (by decide) fl_B_53 ?_
      try simp (disch := omega) only [mset_off, e1]
      refine g_iconst (nI 1) dX0_addDuty_94 ki_1 ?_
      first | refine g_iadd_n dX0_addDuty_95 ?_ | refine g_iadd dX0_addDuty_95 ?_
      refine g_puti (j := 1) dX0_addDuty_96 gc0 rfl (by decide) rfl (by decide) fl_B_53 rfl (tyX0_ok 1 (by decide)) (by first | rfl | exact nar_bI _) rfl ?_
      refine g_iload_n dX0_addDuty_99 rfl ?_
      refine g_ireturn dX0_addDuty_100 rfl (by first | rfl | exact nar_bI _) ?_
      refine h _ ?_ (BKaddD hB hdd hkk hn ?_ ?_ ?_ ?_ ?_ ?_)
      · intro k hk
        have h12 : k ≠ 12 := fun e => hk (by subst e; decide)
        have h1 : k ≠ 1 := fun e => hk (by subst e; decide)
        rw [mset_ne h1, mset_ne h12, hE k h12, ← hM0, mset_ne (fun e => hk (by subst e; decide)), mset_ne (fun e => hk (by subst e; decide)), mset_ne (fun e => hk (by subst e; decide))]
      · rw [mset_at]
      · rw [mset_off (by omega), mset_off (by omega), hE 2 (by decide), ← hM0, mset_at]
      · rw [mset_off (by omega), mset_off (by omega), hE 10 (by decide), ← hM0, mset_off (by omega), mset_off (by omega), mset_at]
      · rw [mset_off (by omega), mset_off (by omega), hE 11 (by decide), ← hM0, mset_off (by omega), mset_at]
      · intro k hk
        have hp0 : pos (fun j => sd S j) (fun e => if e = S 1 0 0 then dd else S 10 e 0) ((fun e => if e = S 1 0 0 then dd else S 10 e 0) (S 1 0 0)) (S 1 0 0) = 0 := by
          show pos _ _ (if S 1 0 0 = S 1 0 0 then dd else S 10 (S 1 0 0) 0) _ = 0
          rw [if_pos rfl, hpos]; rfl
        unfold insF
        rw [hp0]
        by_cases e : k = 0
        · subst e; rw [mset_off (by omega), mset_at, if_neg (by omega), if_pos rfl]
        · rw [mset_off (by omega), mset_off (by omega), if_neg (by omega), if_neg e]; exact hhi k (by omega) hk
      · intro k j hrel n1 n12
        unfold relB at hrel
        rw [mset_off (by omega), mset_off (by omega), hE k n12, ← hM0, mset_off (by omega), mset_off (by omega), mset_off (by omega)]
    · exact absurd rfl c44
  | succ i ih =>
    intro hi M' hE hlo hhi hpos
    have e1 : M' 1 1 = nI (S 1 0 0) := by rw [hE 1 (by decide)]; exact k1
    have hs := sd_lt (S := S) (k := i) (by omega)
    have e12 : M' 12 i = nI (sd S i) := hlo i (by omega)
    have hdk := hB.wf.dk (d := sd S i) (by omega)
    have hdone : ¬ dd < S 10 (sd S i) 0 → ∀ k, k ≤ S 1 0 0 → mset M' 12 (i + 1) (nI (S 1 0 0)) 12 k = nI (insF (fun j => sd S j) (fun e => if e = S 1 0 0 then dd else S 10 e 0) (S 1 0 0) (S 1 0 0) k) := fun hnot k hk => by
      have hp0 : pos (fun j => sd S j) (fun e => if e = S 1 0 0 then dd else S 10 e 0) ((fun e => if e = S 1 0 0 then dd else S 10 e 0) (S 1 0 0)) (S 1 0 0) = i + 1 := by
        show pos _ _ (if S 1 0 0 = S 1 0 0 then dd else S 10 (S 1 0 0) 0) _ = i + 1
        rw [if_pos rfl, hpos]
        exact pos_stop (by show ¬ dd < if sd S i = S 1 0 0 then dd else S 10 (sd S i) 0; rw [hdyf i (by omega)]; exact hnot)
      unfold insF
      rw [hp0]
      by_cases e : k = i + 1
      · subst e; rw [mset_at, if_neg (by omega), if_pos rfl]
      · rw [mset_off (by omega)]
        rcases Nat.lt_or_ge k (i + 1) with q | q
        · rw [if_pos q]; exact hlo k q
        · rw [if_neg (by omega), if_neg e]; exact hhi k (by omega) hk
    refine g_iload dX0_addDuty_42 rfl ?_
    refine g_if_le_n 81 dX0_addDuty_44 (by decide) (by omega) (fun c44 => ?_) (fun c44 => ?_)
    · exact absurd c44 (by omega)
    · refine g_aload_n dX0_addDuty_47 rfl ?_
      refine g_iload dX0_addDuty_48 rfl ?_
      refine g_iconst (nI 1) dX0_addDuty_50 ki_1 ?_
      first | refine g_isub_n dX0_addDuty_51 (by omega) ?_ | refine g_isub dX0_addDuty_51 ?_
      refine g_call1 dX0_addDuty_52 clB_dayAt ml_B_112 gc0 rfl rfl (by decide) (Nat.le_of_ble_eq_true rfl) ?_
      rw [show i + 1 - 1 = i by omega]
      refine SB_dayAtL e1 hw (by omega) e12 hs (by rw [hE 10 (by decide)]; exact k10 _ hs) ?_
      refine g_iload_n dX0_addDuty_55 rfl ?_
      refine g_icmp_le_n 81 dX0_addDuty_56 (by decide) (by omega) (by omega) (fun c56 => ?_) (fun c56 => ?_)
      · refine g_aload_n dX0_addDuty_81 rfl ?_
        refine g_getr (j := 13) dX0_addDuty_82 gc0 rfl (by decide) rfl (by decide) fl_B_43 ?_
        refine g_iload dX0_addDuty_85 rfl ?_
        refine g_iload_n dX0_addDuty_87 rfl ?_
        refine g_iast_n dX0_addDuty_88 (by first | rfl | assumption) (by first | decide | assumption) (by omega) (by omega) ?_
        refine g_aload_n dX0_addDuty_89 rfl ?_
        refine g_dup dX0_addDuty_90 rfl ?_
        refine g_geti (j := 1) dX0_addDuty_91 gc0 rfl (by decide) rfl (by decide) fl_B_53 ?_
        try simp (disch := omega) only [mset_off, e1, e12]
        refine g_iconst (nI 1) dX0_addDuty_94 ki_1 ?_
        first | refine g_iadd_n dX0_addDuty_95 ?_ | refine g_iadd dX0_addDuty_95 ?_
        refine g_puti (j := 1) dX0_addDuty_96 gc0 rfl (by decide) rfl (by decide) fl_B_53 rfl (tyX0_ok 1 (by decide)) (by first | rfl | exact nar_bI _) rfl ?_
        refine g_iload_n dX0_addDuty_99 rfl ?_
        refine g_ireturn dX0_addDuty_100 rfl (by first | rfl | exact nar_bI _) ?_
        refine h _ ?_ (BKaddD hB hdd hkk hn ?_ ?_ ?_ ?_ ?_ ?_)
        · intro k hk
          have h12 : k ≠ 12 := fun e => hk (by subst e; decide)
          have h1 : k ≠ 1 := fun e => hk (by subst e; decide)
          rw [mset_ne h1, mset_ne h12, hE k h12, ← hM0, mset_ne (fun e => hk (by subst e; decide)), mset_ne (fun e => hk (by subst e; decide)), mset_ne (fun e => hk (by subst e; decide))]
        · rw [mset_at]
        · rw [mset_off (by omega), mset_off (by omega), hE 2 (by decide), ← hM0, mset_at]
        · rw [mset_off (by omega), mset_off (by omega), hE 10 (by decide), ← hM0, mset_off (by omega), mset_off (by omega), mset_at]
        · rw [mset_off (by omega), mset_off (by omega), hE 11 (by decide), ← hM0, mset_off (by omega), mset_at]
        · intro k hk
          rw [mset_off (by omega)]; exact hdone (by omega) k hk
        · intro k j hrel n1 n12
          unfold relB at hrel
          rw [mset_off (by omega), mset_off (by omega), hE k n12, ← hM0, mset_off (by omega), mset_off (by omega), mset_off (by omega)]
      · refine g_aload_n dX0_addDuty_59 rfl ?_
        refine g_getr (j := 13) dX0_addDuty_60 gc0 rfl (by decide) rfl (by decide) fl_B_43 ?_
        refine g_iload dX0_addDuty_63 rfl ?_
        refine g_aload_n dX0_addDuty_65 rfl ?_
        refine g_getr (j := 13) dX0_addDuty_66 gc0 rfl (by decide) rfl (by decide) fl_B_43 ?_
        refine g_iload dX0_addDuty_69 rfl ?_
        refine g_iconst (nI 1) dX0_addDuty_71 ki_1 ?_
        first | refine g_isub_n dX0_addDuty_72 (by omega) ?_ | refine g_isub dX0_addDuty_72 ?_
        refine g_iald_n dX0_addDuty_73 (by first | rfl | assumption) (by first | decide | assumption) (by omega) (by omega) ?_
        try simp (disch := omega) only [mset_off, e1, e12]
        refine g_iast_n dX0_addDuty_74 (by first | rfl | assumption) (by first | decide | assumption) (by omega) (by omega) ?_
        first | refine g_incp5_4 dX0_addDuty_75 ki_m1 (by omega) (by decide) rfl ?_ | refine g_incg5_4 (-1) dX0_addDuty_75 ki_m1 (by decide) rfl ?_
        refine g_goto 42 dX0_addDuty_78 (by decide) ?_
        refine ih (by omega) _ ?_ ?_ ?_ ?_
        · intro k hk; rw [mset_ne hk]; exact hE k hk
        · intro j hj; rw [mset_off (by omega)]; exact hlo j (by omega)
        · intro j h1 h2
          by_cases e : j = i + 1
          · subst e; rw [mset_at, show i + 1 - 1 = i by omega]; exact e12
          · rw [mset_off (by omega)]; exact hhi j (by omega) h2
        · rw [hpos]; exact pos_step (by show dd < if sd S i = S 1 0 0 then dd else S 10 (sd S i) 0; rw [hdyf i (by omega)]; omega)
