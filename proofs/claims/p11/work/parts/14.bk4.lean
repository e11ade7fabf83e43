/-! BOOK: what is written -/
theorem mset_at (M : Mm) (k j : Nat) (v : Int32) : mset M k j v k j = v := by rw [mset_same]; exact if_pos rfl
theorem mset_off {M : Mm} {k j a b : Nat} {v : Int32} (h : ¬ (a = k ∧ b = j)) : mset M k j v a b = M a b := by
  unfold mset
  split
  · rename_i e
    subst e
    unfold upd
    rw [if_neg (fun e => h ⟨rfl, e⟩)]
  · rfl
theorem up_at (S : BS) (f i j v : Nat) : up S f i j v f i j = v := if_pos ⟨rfl, rfl, rfl⟩
theorem up_off {S : BS} {f i j v a b c : Nat} (h : ¬ (a = f ∧ b = i ∧ c = j)) : up S f i j v a b c = S a b c := if_neg h
/-- the places that a state speaks of -/
def relB (S : BS) (k j : Nat) : Prop := (k = 1 ∧ j < 3) ∨ (k = 2 ∧ j < S 1 0 0) ∨ (k = 3 ∧ j < S 0 0 0) ∨ (k = 4 ∧ j < 8) ∨ (k = 5 ∧ j < S 0 0 0 * 4) ∨ (k = 6 ∧ j < S 0 0 0) ∨ (k = 7 ∧ j < S 0 0 0 * 8) ∨ (k = 8 ∧ j < S 0 0 0 * 8) ∨ (k = 9 ∧ j < S 0 0 0 * 8) ∨ (k = 10 ∧ j < S 1 0 0) ∨ (k = 11 ∧ j < S 1 0 0) ∨ (k = 12 ∧ j < S 1 0 0) ∨ (k = 13 ∧ j < S 0 0 0 * 24)
theorem relB_1 {S : BS} {j : Nat} (h : j < 3) : relB S 1 j := Or.inl ⟨rfl, h⟩
theorem relB_2 {S : BS} {j : Nat} (h : j < S 1 0 0) : relB S 2 j := Or.inr (Or.inl ⟨rfl, h⟩)
theorem relB_3 {S : BS} {j : Nat} (h : j < S 0 0 0) : relB S 3 j := Or.inr (Or.inr (Or.inl ⟨rfl, h⟩))
theorem relB_4 {S : BS} {j : Nat} (h : j < 8) : relB S 4 j := Or.inr (Or.inr (Or.inr (Or.inl ⟨rfl, h⟩)))
theorem relB_5 {S : BS} {j : Nat} (h : j < S 0 0 0 * 4) : relB S 5 j := Or.inr (Or.inr (Or.inr (Or.inr (Or.inl ⟨rfl, h⟩))))
theorem relB_6 {S : BS} {j : Nat} (h : j < S 0 0 0) : relB S 6 j := Or.inr (Or.inr (Or.inr (Or.inr (Or.inr (Or.inl ⟨rfl, h⟩)))))
theorem relB_7 {S : BS} {j : Nat} (h : j < S 0 0 0 * 8) : relB S 7 j := Or.inr (Or.inr (Or.inr (Or.inr (Or.inr (Or.inr (Or.inl ⟨rfl, h⟩))))))
theorem relB_8 {S : BS} {j : Nat} (h : j < S 0 0 0 * 8) : relB S 8 j := Or.inr (Or.inr (Or.inr (Or.inr (Or.inr (Or.inr (Or.inr (Or.inl ⟨rfl, h⟩)))))))
theorem relB_9 {S : BS} {j : Nat} (h : j < S 0 0 0 * 8) : relB S 9 j := Or.inr (Or.inr (Or.inr (Or.inr (Or.inr (Or.inr (Or.inr (Or.inr (Or.inl ⟨rfl, h⟩))))))))
theorem relB_10 {S : BS} {j : Nat} (h : j < S 1 0 0) : relB S 10 j := Or.inr (Or.inr (Or.inr (Or.inr (Or.inr (Or.inr (Or.inr (Or.inr (Or.inr (Or.inl ⟨rfl, h⟩)))))))))
theorem relB_11 {S : BS} {j : Nat} (h : j < S 1 0 0) : relB S 11 j := Or.inr (Or.inr (Or.inr (Or.inr (Or.inr (Or.inr (Or.inr (Or.inr (Or.inr (Or.inr (Or.inl ⟨rfl, h⟩))))))))))
theorem relB_12 {S : BS} {j : Nat} (h : j < S 1 0 0) : relB S 12 j := Or.inr (Or.inr (Or.inr (Or.inr (Or.inr (Or.inr (Or.inr (Or.inr (Or.inr (Or.inr (Or.inr (Or.inl ⟨rfl, h⟩)))))))))))
theorem relB_13 {S : BS} {j : Nat} (h : j < S 0 0 0 * 24) : relB S 13 j := Or.inr (Or.inr (Or.inr (Or.inr (Or.inr (Or.inr (Or.inr (Or.inr (Or.inr (Or.inr (Or.inr (Or.inr ⟨rfl, h⟩)))))))))))
theorem BK.keep {M M' : Mm} {S : BS} (hB : BK M S) (h : ∀ k j, relB S k j → M' k j = M k j) : BK M' S := by
  have hnr := fun p (hp : p < S 0 0 0) => hB.wf.nr (p := p) (by have := hB.wf.np; omega)
  unfold relB at h
  refine ⟨hB.wf, ?_, ?_, ?_, fun d hd => ?_, fun p hp => ?_, fun p hp => ?_, fun p k hp hk => ?_, fun p hp => ?_, fun p r hp hr => ?_, fun d hd => ?_, fun p d hp hd => ?_⟩
  · rw [h 1 0 (by omega)]; exact hB.np
  · rw [h 1 1 (by omega)]; exact hB.nd
  · rw [h 1 2 (by omega)]; exact hB.yr
  · rw [h 2 d (by omega)]; exact hB.ho hd
  · rw [h 3 p (by omega)]; exact hB.rk hp
  · rw [h 4 p (by omega)]; exact hB.here hp
  · rw [h 5 _ (by omega)]; exact hB.ps hp hk
  · rw [h 6 p (by omega)]; exact hB.nr hp
  · have := hnr p hp
    have hr2 : r < S 6 p 0 := hr
    refine ⟨?_, ?_, fun h1 => ?_⟩
    · rw [h 7 _ (by omega)]; exact hB.rs hp hr
    · rw [h 8 _ (by omega)]; exact hB.ra hp hr
    · rw [h 9 _ (by omega)]; exact hB.rb hp hr h1
  · refine ⟨?_, ?_, ?_⟩
    · rw [h 10 d (by omega)]; exact hB.dy hd
    · rw [h 11 d (by omega)]; exact hB.kd hd
    · rw [h 12 d (by omega)]; exact hB.st hd
  · rw [h 13 _ (by omega)]; exact hB.dl hp hd
theorem BK.eqO {L : List Nat} {M M' : Mm} {S : BS} (hB : BK M S) (h : EqO L M M') (hL : ∀ k ∈ L, k = 0 ∨ 14 ≤ k) : BK M' S := by
  refine hB.keep (fun k j hr => ?_)
  have hk : k ∉ L := fun e => by have := hL k e; unfold relB at hr; omega
  rw [h k hk]
/-- other holders -/
theorem BK.hol {M M' : Mm} {S S' : BS} (hB : BK M S) (hM : ∀ k, k ≠ 2 → M' k = M k) (hS : ∀ a, a ≠ 12 → S' a = S a) (h2 : ∀ d, d < S 1 0 0 → M' 2 d = hv (S' 12 d 0)) (h8 : ∀ d, d < 24 → S' 12 d 0 ≤ 8) : BK M' S' := by
  have h0 := hS 0 (by decide)
  have h1 := hS 1 (by decide)
  have h10 := hS 10 (by decide)
  have h4 := hS 4 (by decide)
  have hsd : ∀ k, sd S' k = sd S k := fun k => by simp only [sd, h1, h10]
  obtain ⟨w, a1, a2, a3, a4, a5, a6, a7, a8, a9, a10, a11⟩ := hB
  refine ⟨?_, ?_, ?_, ?_, ?_, ?_, ?_, ?_, ?_, ?_, ?_, ?_⟩
  · obtain ⟨b1, b2, b3, b4, b5, b6, b7, b8, b9, b10, b11⟩ := w
    simp only [WF, h0, h1, h4, hS 3 (by decide), hS 5 (by decide), hS 6 (by decide), hS 7 (by decide), hS 8 (by decide), hS 9 (by decide), h10, hS 11 (by decide), hS 13 (by decide)]
    exact ⟨b1, b2, b3, b4, b5, b6, b7, b8, fun d hd => ⟨(b9 d hd).1, (b9 d hd).2.1, h8 d hd⟩, b10, b11⟩
  · rw [hM 1 (by decide)]; simp only [h0]; exact a1
  · rw [hM 1 (by decide)]; simp only [h1]; exact a2
  · rw [hM 1 (by decide)]; simp only [hS 2 (by decide)]; exact a3
  · simp only [h1]; exact h2
  · rw [hM 3 (by decide)]; simp only [h0, hS 3 (by decide)]; exact a5
  · rw [hM 4 (by decide)]; simp only [hr, h4]; exact a6
  · rw [hM 5 (by decide)]; simp only [h0, hS 5 (by decide)]; exact a7
  · rw [hM 6 (by decide)]; simp only [h0, hS 6 (by decide)]; exact a8
  · rw [hM 7 (by decide), hM 8 (by decide), hM 9 (by decide)]; simp only [h0, hS 6 (by decide), hS 7 (by decide), hS 8 (by decide), hS 9 (by decide)]; exact a9
  · rw [hM 10 (by decide), hM 11 (by decide), hM 12 (by decide)]; simp only [h1, h10, hS 11 (by decide), hsd]; exact a10
  · rw [hM 13 (by decide)]; simp only [h0, hS 13 (by decide)]; exact a11
theorem BK.hol1 {M : Mm} {S : BS} (hB : BK M S) {e q : Nat} (he : e < S 1 0 0) (hq : q ≤ 8) : BK (mset M 2 e (hv q)) (up S 12 e 0 q) := by
  have hw2 := hB.wf.nd
  refine hB.hol (fun k hk => mset_ne hk) (fun a ha => ?_) (fun d hd => ?_) (fun d hd => ?_)
  · funext b c; exact up_off (fun q => ha q.1)
  · by_cases e2 : d = e
    · subst e2; rw [mset_at, up_at]
    · rw [mset_off (by omega), up_off (by omega)]; exact hB.ho hd
  · by_cases e2 : d = e
    · subst e2; rw [up_at]; exact hq
    · rw [up_off (by omega)]; exact (hB.wf.dk hd).2.2
theorem SB_putHolder {d : Nat} {M : Mm} {S : BS} {Q : Po} (hB : BK M S) {e : Nat} {x : Int32} (he : e < S 1 0 0) (h : Q (mset M 2 e x) none) : Call (d + 2) mB_putHolder [.ref 1, .int (nI e), .int x] M Q := by
  have hw2 := hB.wf.nd
  refine Call_of (m := mB_putHolder) [some (.ref 1), some (.int (nI e)), some (.int x)] rfl (fun G => Nat.le_of_ble_eq_true rfl) (fun G => rfl) ?_
  refine g_aload_n dX0_putHolder_0 rfl ?_
  refine g_iload_n dX0_putHolder_1 rfl ?_
  refine g_call1 dX0_putHolder_2 clB_isDuty ml_B_105 gc0 rfl rfl (by decide) (Nat.le_of_ble_eq_true rfl) ?_
  refine SB_isDutyT hB he ?_
  refine g_if_eq_tt 15 dX0_putHolder_5 (by decide) ?_
  refine g_aload_n dX0_putHolder_8 rfl ?_
  refine g_getr (j := 3) dX0_putHolder_9 gc0 rfl (by decide) rfl (by decide) fl_B_9 ?_
  refine g_iload_n dX0_putHolder_12 rfl ?_
  refine g_iload_n dX0_putHolder_13 rfl ?_
  refine g_iast_n dX0_putHolder_14 (by first | rfl | assumption) (by first | decide | assumption) (by omega) (by omega) ?_
  refine g_return dX0_putHolder_15 rfl ?_
  exact h
theorem SB_putPast {d : Nat} {M : Mm} {S : BS} {Q : Po} (hB : BK M S) {p k : Nat} {x : Int32} (hp : p < S 0 0 0) (hk : k < 4) (h : Q (mset M 5 (p * 4 + k) x) none) : Call (d + 2) mB_putPast [.ref 1, .int (nI p), .int (nI k), .int x] M Q := by
  have hw2 := hB.wf.np
  refine Call_of (m := mB_putPast) [some (.ref 1), some (.int (nI p)), some (.int (nI k)), some (.int x)] rfl (fun G => Nat.le_of_ble_eq_true rfl) (fun G => rfl) ?_
  refine g_aload_n dX0_putPast_0 rfl ?_
  refine g_iload_n dX0_putPast_1 rfl ?_
  refine g_call1 dX0_putPast_2 clB_isOne ml_B_64 gc0 rfl rfl (by decide) (Nat.le_of_ble_eq_true rfl) ?_
  refine SB_isOneT hB hp ?_
  refine g_if_eq_tt 26 dX0_putPast_5 (by decide) ?_
  refine g_iload_n dX0_putPast_8 rfl ?_
  refine g_calln1 (host := "FairTurns") dX0_putPast_9 clF_isKind (by decide) (Nat.le_of_ble_eq_true rfl) ?_
  refine SF_isKindT hk ?_
  refine g_if_eq_tt 26 dX0_putPast_12 (by decide) ?_
  refine g_aload_n dX0_putPast_15 rfl ?_
  refine g_getr (j := 6) dX0_putPast_16 gc0 rfl (by decide) rfl (by decide) fl_B_22 ?_
  refine g_iload_n dX0_putPast_19 rfl ?_
  refine g_iconst (nI 4) dX0_putPast_20 ki_4 ?_
  first | refine g_imul_n dX0_putPast_21 ?_ | refine g_imul dX0_putPast_21 ?_
  refine g_iload_n dX0_putPast_22 rfl ?_
  first | refine g_iadd_n dX0_putPast_23 ?_ | refine g_iadd dX0_putPast_23 ?_
  refine g_iload_n dX0_putPast_24 rfl ?_
  refine g_iast_n dX0_putPast_25 (by first | rfl | assumption) (by first | decide | assumption) (by omega) (by omega) ?_
  refine g_return dX0_putPast_26 rfl ?_
  exact h
theorem SB_putDislike {d : Nat} {M : Mm} {S : BS} {Q : Po} (hB : BK M S) {p e : Nat} {x : Int32} (hp : p < S 0 0 0) (he : e < S 1 0 0) (h : Q (mset M 13 (p * 24 + e) x) none) : Call (d + 2) mB_putDislike [.ref 1, .int (nI p), .int (nI e), .int x] M Q := by
  have hw := hB.wf.np
  have hw2 := hB.wf.nd
  refine Call_of (m := mB_putDislike) [some (.ref 1), some (.int (nI p)), some (.int (nI e)), some (.int x)] rfl (fun G => Nat.le_of_ble_eq_true rfl) (fun G => rfl) ?_
  refine g_aload_n dX0_putDislike_0 rfl ?_
  refine g_iload_n dX0_putDislike_1 rfl ?_
  refine g_call1 dX0_putDislike_2 clB_isOne ml_B_64 gc0 rfl rfl (by decide) (Nat.le_of_ble_eq_true rfl) ?_
  refine SB_isOneT hB hp ?_
  refine g_if_eq_tt 28 dX0_putDislike_5 (by decide) ?_
  refine g_aload_n dX0_putDislike_8 rfl ?_
  refine g_iload_n dX0_putDislike_9 rfl ?_
  refine g_call1 dX0_putDislike_10 clB_isDuty ml_B_105 gc0 rfl rfl (by decide) (Nat.le_of_ble_eq_true rfl) ?_
  refine SB_isDutyT hB he ?_
  refine g_if_eq_tt 28 dX0_putDislike_13 (by decide) ?_
  refine g_aload_n dX0_putDislike_16 rfl ?_
  refine g_getr (j := 14) dX0_putDislike_17 gc0 rfl (by decide) rfl (by decide) fl_B_46 ?_
  refine g_iload_n dX0_putDislike_20 rfl ?_
  refine g_bipush (nI 24) dX0_putDislike_21 kb_24 ?_
  first | refine g_imul_n dX0_putDislike_23 ?_ | refine g_imul dX0_putDislike_23 ?_
  refine g_iload_n dX0_putDislike_24 rfl ?_
  first | refine g_iadd_n dX0_putDislike_25 ?_ | refine g_iadd dX0_putDislike_25 ?_
  refine g_iload_n dX0_putDislike_26 rfl ?_
  refine g_iast_n dX0_putDislike_27 (by first | rfl | assumption) (by first | decide | assumption) (by omega) (by omega) ?_
  refine g_return dX0_putDislike_28 rfl ?_
  exact h
theorem SB_dropRules {d : Nat} {M : Mm} {S : BS} {Q : Po} (hB : BK M S) {p : Nat} (hp : p < S 0 0 0) (h : Q (mset M 6 p (nI 0)) (some (.int (nI (S 6 p 0))))) : Call (d + 2) mB_dropRules [.ref 1, .int (nI p)] M Q := by
  have hw := hB.wf.np
  refine Call_of (m := mB_dropRules) [some (.ref 1), some (.int (nI p)), none] rfl (fun G => Nat.le_of_ble_eq_true rfl) (fun G => rfl) ?_
  refine g_aload_n dX0_dropRules_0 rfl ?_
  refine g_iload_n dX0_dropRules_1 rfl ?_
  refine g_call1 dX0_dropRules_2 clB_isOne ml_B_64 gc0 rfl rfl (by decide) (Nat.le_of_ble_eq_true rfl) ?_
  refine SB_isOneT hB hp ?_
  refine g_if_ne_tt 10 dX0_dropRules_5 (by decide) ?_
  refine g_aload_n dX0_dropRules_10 rfl ?_
  refine g_getr (j := 7) dX0_dropRules_11 gc0 rfl (by decide) rfl (by decide) fl_B_25 ?_
  refine g_iload_n dX0_dropRules_14 rfl ?_
  refine g_iald_n dX0_dropRules_15 (by first | rfl | assumption) (by first | decide | assumption) (by omega) (by omega) ?_
  try simp (disch := omega) only [hB.nr]
  refine g_ist3_2 dX0_dropRules_16 (by decide) rfl ?_
  refine g_aload_n dX0_dropRules_17 rfl ?_
  refine g_getr (j := 7) dX0_dropRules_18 gc0 rfl (by decide) rfl (by decide) fl_B_25 ?_
  refine g_iload_n dX0_dropRules_21 rfl ?_
  refine g_iconst (nI 0) dX0_dropRules_22 ki_0 ?_
  refine g_iast_n dX0_dropRules_23 (by first | rfl | assumption) (by first | decide | assumption) (by omega) (by omega) ?_
  refine g_iload_n dX0_dropRules_24 rfl ?_
  refine g_ireturn dX0_dropRules_25 rfl (by first | rfl | exact nar_bI _) ?_
  exact h
theorem SB_addRule {d : Nat} {M : Mm} {S : BS} {Q : Po} (hB : BK M S) {p : Nat} {x y z : Int32} (hp : p < S 0 0 0) (hn : S 6 p 0 < 8) (h : Q (mset (mset (mset (mset M 7 (p * 8 + S 6 p 0) x) 8 (p * 8 + S 6 p 0) y) 9 (p * 8 + S 6 p 0) z) 6 p (nI (S 6 p 0 + 1))) none) : Call (d + 3) mB_addRule [.ref 1, .int (nI p), .int x, .int y, .int z] M Q := by
  have hw := hB.wf.np
  refine Call_of (m := mB_addRule) [some (.ref 1), some (.int (nI p)), some (.int x), some (.int y), some (.int z), none, none] rfl (fun G => Nat.le_of_ble_eq_true rfl) (fun G => rfl) ?_
  refine g_aload_n dX0_addRule_0 rfl ?_
  refine g_iload_n dX0_addRule_1 rfl ?_
  refine g_call1 dX0_addRule_2 clB_countRulesOf ml_B_102 gc0 rfl rfl (by decide) (Nat.le_of_ble_eq_true rfl) ?_
  refine SB_countRulesOf hB hp ?_
  refine g_ist7_5 dX0_addRule_5 (by decide) rfl ?_
  refine g_aload_n dX0_addRule_7 rfl ?_
  refine g_iload_n dX0_addRule_8 rfl ?_
  refine g_call1 dX0_addRule_9 clB_isOne ml_B_64 gc0 rfl rfl (by decide) (Nat.le_of_ble_eq_true rfl) ?_
  refine SB_isOneT hB hp ?_
  refine g_if_eq_tt 27 dX0_addRule_12 (by decide) ?_
  refine g_iload dX0_addRule_15 rfl ?_
  refine g_if_lt_n 27 dX0_addRule_17 (by decide) (by omega) ?_
  refine g_iload dX0_addRule_20 rfl ?_
  refine g_bipush (nI 8) dX0_addRule_22 kb_8 ?_
  refine g_icmp_lt_n 28 dX0_addRule_24 (by decide) (by omega) (by omega) (fun c24 => ?_) (fun c24 => ?_)
  · refine g_iload_n dX0_addRule_28 rfl ?_
    refine g_bipush (nI 8) dX0_addRule_29 kb_8 ?_
    first | refine g_imul_n dX0_addRule_31 ?_ | refine g_imul dX0_addRule_31 ?_
    refine g_iload dX0_addRule_32 rfl ?_
    first | refine g_iadd_n dX0_addRule_34 ?_ | refine g_iadd dX0_addRule_34 ?_
    refine g_ist7_6 dX0_addRule_35 (by decide) rfl ?_
    refine g_aload_n dX0_addRule_37 rfl ?_
    refine g_getr (j := 8) dX0_addRule_38 gc0 rfl (by decide) rfl (by decide) fl_B_28 ?_
    refine g_iload dX0_addRule_41 rfl ?_
    refine g_iload_n dX0_addRule_43 rfl ?_
    refine g_iast_n dX0_addRule_44 (by first | rfl | assumption) (by first | decide | assumption) (by omega) (by omega) ?_
    refine g_aload_n dX0_addRule_45 rfl ?_
    refine g_getr (j := 9) dX0_addRule_46 gc0 rfl (by decide) rfl (by decide) fl_B_31 ?_
    refine g_iload dX0_addRule_49 rfl ?_
    refine g_iload_n dX0_addRule_51 rfl ?_
    refine g_iast_n dX0_addRule_52 (by first | rfl | assumption) (by first | decide | assumption) (by omega) (by omega) ?_
    refine g_aload_n dX0_addRule_53 rfl ?_
    refine g_getr (j := 10) dX0_addRule_54 gc0 rfl (by decide) rfl (by decide) fl_B_34 ?_
    refine g_iload dX0_addRule_57 rfl ?_
    refine g_iload dX0_addRule_59 rfl ?_
    refine g_iast_n dX0_addRule_61 (by first | rfl | assumption) (by first | decide | assumption) (by omega) (by omega) ?_
    refine g_aload_n dX0_addRule_62 rfl ?_
    refine g_getr (j := 7) dX0_addRule_63 gc0 rfl (by decide) rfl (by decide) fl_B_25 ?_
    refine g_iload_n dX0_addRule_66 rfl ?_
    refine g_iload dX0_addRule_67 rfl ?_
    refine g_iconst (nI 1) dX0_addRule_69 ki_1 ?_
    first | refine g_iadd_n dX0_addRule_70 ?_ | refine g_iadd dX0_addRule_70 ?_
    refine g_iast_n dX0_addRule_71 (by first | rfl | assumption) (by first | decide | assumption) (by omega) (by omega) ?_
    refine g_return dX0_addRule_72 rfl ?_
    exact h
  · exact absurd c24 (by omega)
/-- what p holds and may not any more is open, of the duties below n -/
def opnI (S : BS) (p n : Nat) : BS := fun a b c => if a = 12 ∧ c = 0 ∧ b < n ∧ S 12 b 0 = p ∧ mayB S p b = false then 8 else S a b c
theorem opnI_hol {M : Mm} {S : BS} (hB : BK M S) {p n : Nat} : ∀ a, a ≠ 12 → opnI S p n a = S a := fun a ha => by
  funext b c
  unfold opnI
  rw [if_neg (fun q => ha q.1)]
theorem SB_openWhat {d : Nat} {M : Mm} {S : BS} {Q : Po} (hB : BK M S) {p : Nat} (hp : p < 8) (h : ∀ M', EqO [2] M M' → BK M' (opnI S p (S 1 0 0)) → Q M' none) : Call (d + 3) mB_openWhatMayNotBeHeldBy [.ref 1, .int (nI p)] M Q := by
  have hw2 := hB.wf.nd
  refine Call_of (m := mB_openWhatMayNotBeHeldBy) [some (.ref 1), some (.int (nI p)), none] rfl (fun G => Nat.le_of_ble_eq_true rfl) (fun G => rfl) ?_
  refine g_iconst (nI 0) dX0_openWhatMayNotBeHeldBy_0 ki_0 ?_
  refine g_ist3_2 dX0_openWhatMayNotBeHeldBy_1 (by decide) rfl ?_
  refine loop_up (P := fun i => ∀ M', EqO [2] M M' → BK M' (opnI S p i) → Go mB_openWhatMayNotBeHeldBy (d + 3) Q 2 [some (.ref 1), some (.int (nI p)), some (.int (nI i))] [] M') (S 1 0 0) ?_ 0 (Nat.zero_le _) M EqO.rf ?_
  · intro i hi ih M' hE hB'
    have e1 : ∀ n, opnI S p n 1 0 0 = S 1 0 0 := fun n => by rw [opnI_hol hB 1 (by decide)]
    have hmay : ∀ b, mayB (opnI S p i) p b = mayB S p b := fun b => by
      simp only [mayB, hr, opnI_hol hB _ (show (4 : Nat) ≠ 12 by decide), opnI_hol hB _ (show (6 : Nat) ≠ 12 by decide), opnI_hol hB _ (show (7 : Nat) ≠ 12 by decide), opnI_hol hB _ (show (8 : Nat) ≠ 12 by decide), opnI_hol hB _ (show (9 : Nat) ≠ 12 by decide), opnI_hol hB _ (show (10 : Nat) ≠ 12 by decide), opnI_hol hB _ (show (11 : Nat) ≠ 12 by decide)]
    have hoi : opnI S p i 12 i 0 = S 12 i 0 := by unfold opnI; rw [if_neg (by omega)]
    refine g_iload_n dX0_openWhatMayNotBeHeldBy_2 rfl ?_
    refine g_aload_n dX0_openWhatMayNotBeHeldBy_3 rfl ?_
    refine g_geti (j := 1) dX0_openWhatMayNotBeHeldBy_4 gc0 rfl (by decide) rfl (by decide) fl_B_53 ?_
    try simp (disch := omega) only [hB'.nd, e1]
    refine g_icmp_ge_n 40 dX0_openWhatMayNotBeHeldBy_7 (by decide) (by omega) (by omega) (fun c7 => ?_) (fun c7 => ?_)
    · refine g_return dX0_openWhatMayNotBeHeldBy_40 rfl ?_
      rw [show i = S 1 0 0 by omega] at hB'
      exact h M' hE hB'
    · have hd8 := (hB.wf.dk (d := i) (by omega)).2.2
      have hstay : (¬ (S 12 i 0 = p ∧ mayB S p i = false)) → BK M' (opnI S p (i + 1)) := fun hn => by
        have e2 : opnI S p (i + 1) = opnI S p i := by
          funext a b c
          unfold opnI
          by_cases q : a = 12 ∧ c = 0 ∧ b < i ∧ S 12 b 0 = p ∧ mayB S p b = false
          · rw [if_pos q, if_pos ⟨q.1, q.2.1, by omega, q.2.2.2⟩]
          · rw [if_neg q, if_neg (fun z => ?_)]
            rcases Nat.lt_or_ge b i with y | y
            · exact q ⟨z.1, z.2.1, y, z.2.2.2⟩
            · have : b = i := by omega
              subst this
              exact hn z.2.2.2
        rw [e2]; exact hB'
      refine g_aload_n dX0_openWhatMayNotBeHeldBy_10 rfl ?_
      refine g_iload_n dX0_openWhatMayNotBeHeldBy_11 rfl ?_
      refine g_call1 dX0_openWhatMayNotBeHeldBy_12 clB_holderOf ml_B_71 gc0 rfl rfl (by decide) (Nat.le_of_ble_eq_true rfl) ?_
      refine SB_holderOf hB' (by rw [e1]; omega) ?_
      rw [hoi]
      refine g_iload_n dX0_openWhatMayNotBeHeldBy_15 rfl ?_
      refine g_icmp_ne 34 dX0_openWhatMayNotBeHeldBy_16 (by decide) (fun c16 => ?_) (fun c16 => ?_)
      · rw [hv_eq hd8 hp] at c16
        first | refine g_incn3_2 dX0_openWhatMayNotBeHeldBy_34 ki_1 (by decide) rfl ?_ | refine g_incg3_2 (nI 1) dX0_openWhatMayNotBeHeldBy_34 ki_1 (by decide) rfl ?_
        refine g_goto 2 dX0_openWhatMayNotBeHeldBy_37 (by decide) ?_
        exact ih (by omega) M' hE (hstay (fun q => c16 q.1))
      · rw [hv_eq hd8 hp] at c16
        refine g_aload_n dX0_openWhatMayNotBeHeldBy_19 rfl ?_
        refine g_iload_n dX0_openWhatMayNotBeHeldBy_20 rfl ?_
        refine g_iload_n dX0_openWhatMayNotBeHeldBy_21 rfl ?_
        refine g_call2 dX0_openWhatMayNotBeHeldBy_22 clB_mayHold ml_B_74 gc0 rfl rfl (by decide) (Nat.le_of_ble_eq_true rfl) ?_
        refine SB_mayHold hB' (by omega) (by rw [e1]; omega) ?_
        rw [hmay]
        refine g_if_ne_b 34 dX0_openWhatMayNotBeHeldBy_25 (by decide) (fun c25 => ?_) (fun c25 => ?_)
        · first | refine g_incn3_2 dX0_openWhatMayNotBeHeldBy_34 ki_1 (by decide) rfl ?_ | refine g_incg3_2 (nI 1) dX0_openWhatMayNotBeHeldBy_34 ki_1 (by decide) rfl ?_
          refine g_goto 2 dX0_openWhatMayNotBeHeldBy_37 (by decide) ?_
          exact ih (by omega) M' hE (hstay (fun q => by rw [q.2] at c25; cases c25))
        · refine g_aload_n dX0_openWhatMayNotBeHeldBy_28 rfl ?_
          refine g_iload_n dX0_openWhatMayNotBeHeldBy_29 rfl ?_
          refine g_iconst ((-1)) dX0_openWhatMayNotBeHeldBy_30 ki_m1 ?_
          refine g_call2 dX0_openWhatMayNotBeHeldBy_31 clB_putHolder ml_B_78 gc0 rfl rfl (by decide) (Nat.le_of_ble_eq_true rfl) ?_
          refine SB_putHolder hB' (by rw [e1]; omega) ?_
          first | refine g_incn3_2 dX0_openWhatMayNotBeHeldBy_34 ki_1 (by decide) rfl ?_ | refine g_incg3_2 (nI 1) dX0_openWhatMayNotBeHeldBy_34 ki_1 (by decide) rfl ?_
          refine g_goto 2 dX0_openWhatMayNotBeHeldBy_37 (by decide) ?_
          refine ih (by omega) _ (hE.tr (EqO.set (by decide))) ?_
          rw [show opnI S p (i + 1) = up (opnI S p i) 12 i 0 8 from ?_]
          · have := hB'.hol1 (e := i) (q := 8) (by rw [e1]; omega) (Nat.le_refl 8)
            exact this
          · funext a b c
            by_cases q : a = 12 ∧ b = i ∧ c = 0
            · obtain ⟨rfl, rfl, rfl⟩ := q
              rw [up_at]
              unfold opnI
              rw [if_pos ⟨rfl, rfl, by omega, c16, c25⟩]
            · rw [up_off q]
              unfold opnI
              by_cases z : a = 12 ∧ c = 0 ∧ b < i ∧ S 12 b 0 = p ∧ mayB S p b = false
              · rw [if_pos z, if_pos ⟨z.1, z.2.1, by omega, z.2.2.2⟩]
              · rw [if_neg z, if_neg (fun y => z ⟨y.1, y.2.1, by omega, y.2.2.2⟩)]
  · rw [show opnI S p 0 = S from ?_]
    · exact hB
    · funext a b c; unfold opnI; rw [if_neg (fun q => absurd q.2.2.1 (Nat.not_lt_zero _))]
theorem BK.gone {M : Mm} {S : BS} (hB : BK M S) {p : Nat} (hp : p < S 0 0 0) : BK (mset M 4 p (nI 0)) (up S 4 p 0 0) := by
  have hw := hB.wf.np
  obtain ⟨w, a1, a2, a3, a4, a5, a6, a7, a8, a9, a10, a11⟩ := hB
  refine ⟨?_, a1, a2, a3, a4, a5, fun q hq => ?_, a7, a8, a9, a10, a11⟩
  · obtain ⟨b1, b2, b3, b4, b5, b6, b7, b8, b9, b10, b11⟩ := w
    refine ⟨b1, b2, fun q hq => ?_, fun q hq => ?_, b5, b6, b7, b8, b9, b10, b11⟩
    · by_cases e : q = p
      · subst e; rw [up_at]; omega
      · rw [up_off (by omega)]; exact b3 q hq
    · have hq2 : S 0 0 0 ≤ q := hq
      rw [up_off (by omega)]; exact b4 q hq
  · by_cases e : q = p
    · subst e; rw [mset_at]; simp only [hr]; rw [up_at]; rfl
    · rw [mset_off (by omega)]; simp only [hr]; rw [up_off (by omega)]; exact a6 q hq
theorem SB_leave {d : Nat} {M : Mm} {S : BS} {Q : Po} (hB : BK M S) {p : Nat} (hp : p < S 0 0 0) (h : ∀ M', EqO [2, 4] M M' → BK M' (opnI (up S 4 p 0 0) p (S 1 0 0)) → Q M' none) : Call (d + 4) mB_leave [.ref 1, .int (nI p)] M Q := by
  have hw := hB.wf.np
  refine Call_of (m := mB_leave) [some (.ref 1), some (.int (nI p))] rfl (fun G => Nat.le_of_ble_eq_true rfl) (fun G => rfl) ?_
  refine g_aload_n dX0_leave_0 rfl ?_
  refine g_iload_n dX0_leave_1 rfl ?_
  refine g_call1 dX0_leave_2 clB_isOne ml_B_64 gc0 rfl rfl (by decide) (Nat.le_of_ble_eq_true rfl) ?_
  refine SB_isOneT hB hp ?_
  refine g_if_ne_tt 9 dX0_leave_5 (by decide) ?_
  refine g_aload_n dX0_leave_9 rfl ?_
  refine g_getr (j := 5) dX0_leave_10 gc0 rfl (by decide) rfl (by decide) fl_B_18 ?_
  refine g_iload_n dX0_leave_13 rfl ?_
  refine g_iconst (nI 0) dX0_leave_14 ki_0 ?_
  refine g_bast_n dX0_leave_15 rfl (by decide) (by decide) (by omega) (by first | rfl | exact vnar_bI _ | assumption) ?_
  refine g_aload_n dX0_leave_16 rfl ?_
  refine g_iload_n dX0_leave_17 rfl ?_
  refine g_call1 dX0_leave_18 clB_openWhatMayNotBeHeldBy ml_B_67 gc0 rfl rfl (by decide) (Nat.le_of_ble_eq_true rfl) ?_
  refine SB_openWhat (hB.gone hp) (by omega) (fun M' hE hB' => ?_)
  refine g_return dX0_leave_21 rfl ?_
  exact h M' (((EqO.set (L := [2, 4]) (M := M) (k := 4) (j := p) (v := nI 0) (by decide))).tr (hE.sub (by decide))) hB'
