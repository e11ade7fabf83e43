/-! PATHS in the class -/
theorem g_ldc {m : Me} {d : Nat} {Q : Po} {pc : Nat} {ls : Lv} {st : St} {M : Mm} (v : Int32) {i : Nat} (hd : decode m.2.1 pc = .ok (.ldc i, 2)) (h : Cond.constant m.1.cls i v ∈ TB) (kk : Go m d Q (pc + 2) ls (.int v :: st) M) : Go m d Q pc ls (st) M := by
  intro p l e s mi args below meth c G sz hF hK hS hz H locs arr hP hD hFr hl
  exact lv_ldc hF.1 hF.2.1 hF.2.2.2.2.1 (hF.2.2.2.2.2.1 _ (List.mem_cons_of_mem _ h)) hd (kk p l e s mi args below meth c G sz hF hK hS hz H locs arr hP hD hFr hl)
def bv (d : Nat) : Int32 := if d = 24 then -1 else nI d
def PR (c : Int32) (ml bb is : Nat → Int32) (q : PS) : Prop := c = nI q.1.length ∧ q.1.length ≤ 8 ∧ (∀ i, i < q.1.length → ml i = nI (q.1.getD i 0)) ∧ (∀ p, p < 8 → is p = bI (decide (p ∈ q.1))) ∧ ∀ p ∈ q.1, bb p = bv (q.2 p)
theorem PR.meet {c : Int32} {ml bb is : Nat → Int32} {q : PS} (h : PR c ml bb is q) {p d : Nat} (hp : p ∉ q.1) (hp8 : p < 8) (hl : q.1.length < 8) : PR (nI (q.1.length + 1)) (upd ml q.1.length (nI p)) (upd bb p (bv d)) (upd is p (nI 1)) (meetP q p d) := by
  obtain ⟨h1, h2, h3, h4, h5⟩ := h
  unfold meetP
  rw [if_neg hp]
  refine ⟨by simp, by simp; omega, fun i hi => ?_, fun x hx => ?_, fun x hx => ?_⟩
  · simp only [List.length_append, List.length_singleton] at hi
    by_cases e : i = q.1.length
    · subst e; rw [upd_at, getD_last]
    · rw [upd_off e, getD_app (by omega)]; exact h3 i (by omega)
  · by_cases e : x = p
    · subst e; rw [upd_at]; simp [bI]
    · rw [upd_off e, h4 x hx]; simp [e]
  · by_cases e : x = p
    · subst e; rw [upd_at]; simp
    · have hx2 : x ∈ q.1 := by
        rcases List.mem_append.mp hx with z | z
        · exact z
        · exact absurd (List.mem_singleton.mp z) e
      rw [upd_off e, h5 x hx2]; simp [e]
abbrev PC (M : Mm) (q : PS) : Prop := PR (M 31 4) (M 32) (M 33) (M 34) q
theorem PR.eqO {c : Int32} {ml bb is : Nat → Int32} {q : PS} (h : PR c ml bb is q) {c' : Int32} {ml' bb' is' : Nat → Int32} (e1 : c' = c) (e2 : ml' = ml) (e3 : bb' = bb) (e4 : is' = is) : PR c' ml' bb' is' q := by rw [e1, e2, e3, e4]; exact h
theorem SH_forget {d : Nat} {M : Mm} {Q : Po} (h : ∀ M', EqO [31, 34] M M' → PC M' ([], fun _ => 24) → Q M' none) : Call (d + 1) mH_forget [.ref 31] M Q := by
  refine Call_of (m := mH_forget) [some (.ref 31), none] rfl (fun G => Nat.le_of_ble_eq_true rfl) (fun G => rfl) ?_
  refine g_aload_n dX4_forget_0 rfl ?_
  refine g_iconst (nI 0) dX4_forget_1 ki_0 ?_
  refine g_puti (j := 4) dX4_forget_2 gc4 rfl (by decide) rfl (by decide) fl_H_26 rfl (tyX4_ok 4 (by decide)) (by first | rfl | exact nar_bI _) rfl ?_
  refine g_iconst (nI 0) dX4_forget_5 ki_0 ?_
  refine g_ist2_1 dX4_forget_6 (by decide) rfl ?_
  refine loop_up (P := fun i => ∀ M', EqO [31, 34] M M' → M' 31 4 = nI 0 → (∀ p, p < i → M' 34 p = nI 0) → Go mH_forget (d + 1) Q 7 [some (.ref 31), some (.int (nI i))] [] M') 8 ?_ 0 (Nat.zero_le _) _ (EqO.set (by decide)) (by rw [mset_at]) (fun p hp => absurd hp (by omega))
  intro i hi ih M' hE h4 h34
  refine g_iload_n dX4_forget_7 rfl ?_
  refine g_bipush (nI 8) dX4_forget_8 kb_8 ?_
  refine g_icmp_ge_n 26 dX4_forget_10 (by decide) (by omega) (by omega) (fun c10 => ?_) (fun c10 => ?_)
  · refine g_return dX4_forget_26 rfl ?_
    exact h M' hE ⟨h4, by simp, fun i hi => by simp at hi, fun p hp => by rw [h34 p (by omega)]; simp [bI], fun p hp => by simp at hp⟩
  · refine g_aload_n dX4_forget_13 rfl ?_
    refine g_getr (j := 3) dX4_forget_14 gc4 rfl (by decide) rfl (by decide) fl_H_18 ?_
    refine g_iload_n dX4_forget_17 rfl ?_
    refine g_iconst (nI 0) dX4_forget_18 ki_0 ?_
    refine g_bast_n dX4_forget_19 rfl (by decide) (by decide) (by omega) (by first | rfl | exact vnar_bI _ | assumption) ?_
    first | refine g_incn2_1 dX4_forget_20 ki_1 (by decide) rfl ?_ | refine g_incg2_1 (nI 1) dX4_forget_20 ki_1 (by decide) rfl ?_
    refine g_goto 7 dX4_forget_23 (by decide) ?_
    refine ih (by omega) _ (hE.tr (EqO.set (by decide))) (by rw [mset_off (by omega)]; exact h4) (fun p hp => ?_)
    by_cases e : p = i
    · subst e; rw [mset_at]
    · rw [mset_off (by omega)]; exact h34 p (by omega)
theorem SH_meet {d : Nat} {M : Mm} {S : BS} {Q : Po} (hB : BK M S) {q : PS} (hq : PC M q) (hn : q.1.Nodup) (hb : ∀ x ∈ q.1, x < S 0 0 0) {p e : Nat} {x : Int32} (hp : p < S 0 0 0) (hx : x = bv e) (h : ∀ M', EqO [31, 32, 33, 34] M M' → PC M' (meetP q p e) → Q M' none) : Call (d + 2) mH_meet [.ref 31, .int (nI p), .int x] M Q := by
  have hw := hB.wf.np
  obtain ⟨q1, q2, q3, q4, q5⟩ := id hq
  have q4p := q4 p (by omega)
  refine Call_of (m := mH_meet) [some (.ref 31), some (.int (nI p)), some (.int x)] rfl (fun G => Nat.le_of_ble_eq_true rfl) (fun G => rfl) ?_
  refine g_aload_n dX4_meet_0 rfl ?_
  refine g_getr (j := 0) dX4_meet_1 gc4 rfl (by decide) rfl (by decide) fl_H_22 ?_
  refine g_iload_n dX4_meet_4 rfl ?_
  refine g_call1 dX4_meet_5 clB_isOne ml_H_94 gc0 rfl rfl (by decide) (Nat.le_of_ble_eq_true rfl) ?_
  refine SB_isOneT hB hp ?_
  refine g_if_eq_tt 36 dX4_meet_8 (by decide) ?_
  refine g_aload_n dX4_meet_11 rfl ?_
  refine g_getr (j := 3) dX4_meet_12 gc4 rfl (by decide) rfl (by decide) fl_H_18 ?_
  refine g_iload_n dX4_meet_15 rfl ?_
  refine g_bald_n dX4_meet_16 rfl (by decide) (by decide) (by omega) ?_
  try simp (disch := omega) only [q1, q4p]
  refine g_if_ne_b 36 dX4_meet_17 (by decide) (fun c17 => ?_) (fun c17 => ?_)
  · have hin : p ∈ q.1 := of_decide_eq_true c17
    refine g_return dX4_meet_36 rfl ?_
    have e1 : meetP q p e = q := if_pos hin
    exact h M EqO.rf (by rw [e1]; exact hq)
  · have hni : p ∉ q.1 := of_decide_eq_false c17
    have hlen : q.1.length < 8 := by
      have := nodup_len (n := S 0 0 0) (l := q.1 ++ [p]) (by
        rw [List.nodup_append]
        refine ⟨hn, by simp, fun a ha b hb2 e => ?_⟩
        rw [List.mem_singleton] at hb2
        subst hb2
        subst e
        exact hni ha) (fun z hz => by
        rcases List.mem_append.mp hz with y | y
        · exact hb z y
        · rw [List.mem_singleton.mp y]; exact hp)
      rw [List.length_append, List.length_singleton] at this
      omega
    refine g_aload_n dX4_meet_20 rfl ?_
    refine g_geti (j := 4) dX4_meet_21 gc4 rfl (by decide) rfl (by decide) fl_H_26 ?_
    try simp (disch := omega) only [q1, q4p]
    refine g_if_lt_n 36 dX4_meet_24 (by decide) (by omega) ?_
    refine g_aload_n dX4_meet_27 rfl ?_
    refine g_geti (j := 4) dX4_meet_28 gc4 rfl (by decide) rfl (by decide) fl_H_26 ?_
    try simp (disch := omega) only [q1, q4p]
    refine g_bipush (nI 8) dX4_meet_31 kb_8 ?_
    refine g_icmp_lt_n 37 dX4_meet_33 (by decide) (by omega) (by omega) (fun c33 => ?_) (fun c33 => ?_)
    · skip
      refine g_aload_n dX4_meet_37 rfl ?_
      refine g_getr (j := 3) dX4_meet_38 gc4 rfl (by decide) rfl (by decide) fl_H_18 ?_
      refine g_iload_n dX4_meet_41 rfl ?_
      refine g_iconst (nI 1) dX4_meet_42 ki_1 ?_
      refine g_bast_n dX4_meet_43 rfl (by decide) (by decide) (by omega) (by first | rfl | exact vnar_bI _ | assumption) ?_
      refine g_aload_n dX4_meet_44 rfl ?_
      refine g_getr (j := 2) dX4_meet_45 gc4 rfl (by decide) rfl (by decide) fl_H_15 ?_
      refine g_iload_n dX4_meet_48 rfl ?_
      refine g_iload_n dX4_meet_49 rfl ?_
      refine g_iast_n dX4_meet_50 (by first | rfl | assumption) (by first | decide | assumption) (by omega) (by omega) ?_
      refine g_aload_n dX4_meet_51 rfl ?_
      refine g_getr (j := 1) dX4_meet_52 gc4 rfl (by decide) rfl (by decide) fl_H_9 ?_
      refine g_aload_n dX4_meet_55 rfl ?_
      refine g_geti (j := 4) dX4_meet_56 gc4 rfl (by decide) rfl (by decide) fl_H_26 ?_
      try simp (disch := omega) only [q1, mset_off]
      refine g_iload_n dX4_meet_59 rfl ?_
      refine g_iast_n dX4_meet_60 (by first | rfl | assumption) (by first | decide | assumption) (by omega) (by omega) ?_
      refine g_aload_n dX4_meet_61 rfl ?_
      refine g_dup dX4_meet_62 rfl ?_
      refine g_geti (j := 4) dX4_meet_63 gc4 rfl (by decide) rfl (by decide) fl_H_26 ?_
      try simp (disch := omega) only [q1, mset_off]
      refine g_iconst (nI 1) dX4_meet_66 ki_1 ?_
      first | refine g_iadd_n dX4_meet_67 ?_ | refine g_iadd dX4_meet_67 ?_
      refine g_puti (j := 4) dX4_meet_68 gc4 rfl (by decide) rfl (by decide) fl_H_26 rfl (tyX4_ok 4 (by decide)) (by first | rfl | exact nar_bI _) rfl ?_
      refine g_return dX4_meet_71 rfl ?_
      refine h _ ?_ ?_
      · exact (EqO.set (by decide)).tr ((EqO.set (by decide)).tr ((EqO.set (by decide)).tr (EqO.set (by decide))))
      · refine (hq.meet (d := e) hni (by omega) hlen).eqO ?_ ?_ ?_ ?_
        · rw [mset_at]
        · rw [mset_ne (by decide), mset_row, mset_ne (by decide), mset_ne (by decide)]
        · rw [mset_ne (by decide), mset_ne (by decide), mset_row, mset_ne (by decide), hx]
        · rw [mset_ne (by decide), mset_ne (by decide), mset_ne (by decide), mset_row]
    · exact absurd hlen c33
