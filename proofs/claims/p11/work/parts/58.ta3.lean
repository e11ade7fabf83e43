/-! THE TAPE in the reference -/
def EqT (M M' : Mm) : Prop := ∀ k j, ¬ (k = 57 ∧ (j = 20 ∨ j = 21 ∨ j = 22)) → M' k j = M k j
theorem EqT.rf {M : Mm} : EqT M M := fun _ _ _ => rfl
theorem EqT.tr {M M1 M2 : Mm} (h1 : EqT M M1) (h2 : EqT M1 M2) : EqT M M2 := fun k j h => (h2 k j h).trans (h1 k j h)
theorem EqT.set {M : Mm} {j : Nat} {v : Int32} (h : j = 20 ∨ j = 21 ∨ j = 22) : EqT M (mset M 57 j v) := fun k i hk => mset_off (fun z => hk (by omega))
theorem EqT.row {M M' : Mm} (h : EqT M M') {k : Nat} (hk : k ≠ 57) : M' k = M k := funext fun j => h k j (fun z => hk z.1)
theorem EqT.q {M M' : Mm} (h : EqT M M') : EqQ [] M M' := fun k j _ hj => h k j (fun z => by have := hj z.1; omega)
def TPm (n : Nat) (t : Nat → Nat) (M : Mm) : Prop := n ≤ 150 ∧ (∀ i, i < n → 1 ≤ t i ∧ t i ≤ 127) ∧ M 57 19 = nI n ∧ ∀ i, i < n → M 69 i = nI (t i)
def TM (n : Nat) (t : Nat → Nat) (M : Mm) (q : TS) : Prop := TPm n t M ∧ STp n (M 57 20) (M 57 21) q
theorem TPm.tb_le {n : Nat} {t : Nat → Nat} {M : Mm} (h : TPm n t M) (i : Nat) : tb n t i ≤ 127 := by
  unfold tb
  split
  · rename_i z; exact (h.2.1 i z).2
  · omega
theorem TPm.eqT {n : Nat} {t : Nat → Nat} {M M' : Mm} (h : TPm n t M) (hE : EqT M M') : TPm n t M' := by
  refine ⟨h.1, h.2.1, ?_, fun i hi => ?_⟩
  · rw [hE 57 19 (by omega)]; exact h.2.2.1
  · rw [hE 69 i (by omega)]; exact h.2.2.2 i hi
theorem TM.off {n : Nat} {t : Nat → Nat} {M M' : Mm} {q : TS} (h : TM n t M q) (h1 : M' 69 = M 69) (h2 : ∀ j, j = 19 ∨ j = 20 ∨ j = 21 → M' 57 j = M 57 j) : TM n t M' q := by
  unfold TM TPm at h ⊢
  rw [h1, h2 19 (by omega), h2 20 (by omega), h2 21 (by omega)]
  exact h
theorem TM.set {n : Nat} {t : Nat → Nat} {M : Mm} {a b : Nat} (h : TM n t M (.inl a)) (hb : b ≤ n) : TM n t (mset M 57 20 (nI b)) (.inl b) := by
  refine ⟨h.1.eqT (EqT.set (by omega)), hb, ?_, ?_⟩
  · rw [mset_at]
  · rw [mset_off (by omega)]; exact h.2.2.2
theorem TM.fl {n : Nat} {t : Nat → Nat} {M : Mm} {a b : Nat} (h : TM n t M (.inl a)) (hb : b ≤ n) : TM n t (mset M 57 21 (nI b)) (.inr b) := by
  refine ⟨h.1.eqT (EqT.set (by omega)), hb, ?_, a, h.2.1, ?_⟩
  · rw [mset_at]
  · rw [mset_off (by omega)]; exact h.2.2.1
theorem TM.at {n : Nat} {t : Nat → Nat} {M : Mm} {q : TS} (h : TM n t M q) : ∃ a, a ≤ n ∧ M 57 20 = nI a ∧ (∀ b, q = .inl b → b = a) := by
  cases q with
  | inl a => exact ⟨a, h.2.1, h.2.2.1, fun b e => by cases e; rfl⟩
  | inr f =>
    obtain ⟨a, h1, h2⟩ := h.2.2.2
    exact ⟨a, h1, h2, fun b e => by cases e⟩
/-- the sign that stands here; none: -1 -/
def hrV (n : Nat) (t : Nat → Nat) : TS → Int32
  | .inl a => if a < n then nI (t a) else -1
  | .inr _ => -1
theorem hrV_tb {n : Nat} {t : Nat → Nat} {a : Nat} (h : a < n) : hrV n t (.inl a) = nI (tb n t a) := by
  rw [show hrV n t (.inl a) = nI (t a) from if_pos h, show tb n t a = t a from if_pos h]
theorem hrV_eq {n : Nat} {t : Nat → Nat} {q : TS} {c : Nat} (ht : ∀ i, i < n → 1 ≤ t i ∧ t i ≤ 127) (hc : 1 ≤ c ∧ c < 200) : hrV n t q = nI c ↔ tk n t c q = true := by
  cases q with
  | inl a =>
    show (if a < n then nI (t a) else -1) = nI c ↔ decide (tb n t a = c) = true
    rw [decide_eq_true_eq]
    unfold tb
    by_cases z : a < n
    · rw [if_pos z, if_pos z]
      have := ht a z
      exact nI_eq (by omega) (by omega)
    · rw [if_neg z, if_neg z]
      exact ⟨fun e => absurd e.symm (nI_m1 (by omega)), fun e => by omega⟩
  | inr f =>
    simp only [hrV, tk]
    exact ⟨fun e => absurd e.symm (nI_m1 (by omega)), fun e => by cases e⟩
theorem SM_here {d : Nat} {n : Nat} {t : Nat → Nat} {M : Mm} {Q : Po} {q : TS} (hT : TM n t M q) (h : Q M (some (.int (hrV n t q)))) : Call (d + 1) mM_here [.ref 57] M Q := by
  obtain ⟨⟨hn, ht, e1, e4⟩, hS⟩ := hT
  cases q with
  | inl a =>
    obtain ⟨ha, e2, e3⟩ := hS
    simp only [hrV] at h
    refine Call_of (m := mM_here) [some (.ref 57)] rfl (fun G => Nat.le_of_ble_eq_true rfl) (fun G => rfl) ?_
    refine g_aload_n dX10_here_0 rfl ?_
    refine g_geti (j := 21) dX10_here_1 gc10 rfl (by decide) rfl (by decide) fl_M_248 ?_
    try simp (disch := omega) only [e1, e2, e3, e4]
    refine g_if_ge 30 dX10_here_4 (by decide) (fun c4 => ?_) (fun c4 => ?_)
    · exact absurd c4 (by decide)
    · refine g_aload_n dX10_here_7 rfl ?_
      refine g_geti (j := 20) dX10_here_8 gc10 rfl (by decide) rfl (by decide) fl_M_251 ?_
      try simp (disch := omega) only [e1, e2, e3, e4]
      refine g_aload_n dX10_here_11 rfl ?_
      refine g_geti (j := 19) dX10_here_12 gc10 rfl (by decide) rfl (by decide) fl_M_245 ?_
      try simp (disch := omega) only [e1, e2, e3, e4]
      refine g_icmp_ge_n 30 dX10_here_15 (by decide) (by omega) (by omega) (fun c15 => ?_) (fun c15 => ?_)
      · rw [if_neg (by omega)] at h
        refine g_iconst ((-1)) dX10_here_30 ki_m1 ?_
        refine g_ireturn dX10_here_31 rfl (by first | rfl | exact nar_bI _) ?_
        exact h
      · rw [if_pos (by omega)] at h
        refine g_aload_n dX10_here_18 rfl ?_
        refine g_getr (j := 18) dX10_here_19 gc10 rfl (by decide) rfl (by decide) fl_M_44 ?_
        refine g_aload_n dX10_here_22 rfl ?_
        refine g_geti (j := 20) dX10_here_23 gc10 rfl (by decide) rfl (by decide) fl_M_251 ?_
        try simp (disch := omega) only [e1, e2, e3, e4]
        refine g_iald_n dX10_here_26 (by first | rfl | assumption) (by first | decide | assumption) (by omega) (by omega) ?_
        try simp (disch := omega) only [e1, e2, e3, e4]
        refine g_goto 31 dX10_here_27 (by decide) ?_
        refine g_ireturn dX10_here_31 rfl (by first | rfl | exact nar_bI _) ?_
        exact h
  | inr f =>
    obtain ⟨hf, e3, _⟩ := hS
    simp only [hrV] at h
    refine Call_of (m := mM_here) [some (.ref 57)] rfl (fun G => Nat.le_of_ble_eq_true rfl) (fun G => rfl) ?_
    refine g_aload_n dX10_here_0 rfl ?_
    refine g_geti (j := 21) dX10_here_1 gc10 rfl (by decide) rfl (by decide) fl_M_248 ?_
    try simp (disch := omega) only [e3]
    refine g_if_ge_n 30 dX10_here_4 (by decide) (by omega) ?_
    refine g_iconst ((-1)) dX10_here_30 ki_m1 ?_
    refine g_ireturn dX10_here_31 rfl (by first | rfl | exact nar_bI _) ?_
    exact h
theorem SM_faults {d : Nat} {n : Nat} {t : Nat → Nat} {M : Mm} {Q : Po} {p : Nat} {x : Int32} {q : TS} (hT : TM n t M q) (hx : ∀ a, q = .inl a → x = nI p ∧ p ≤ n) (h : ∀ M', EqT M M' → TM n t M' (flS p q) → Q M' none) : Call (d + 1) mM_faults [.ref 57, .int x] M Q := by
  cases q with
  | inl a =>
    obtain ⟨e, hp⟩ := hx a rfl
    have e3 : M 57 21 = -1 := hT.2.2.2
    refine Call_of (m := mM_faults) [some (.ref 57), some (.int x)] rfl (fun G => Nat.le_of_ble_eq_true rfl) (fun G => rfl) ?_
    refine g_aload_n dX10_faults_0 rfl ?_
    refine g_aload_n dX10_faults_1 rfl ?_
    refine g_geti (j := 21) dX10_faults_2 gc10 rfl (by decide) rfl (by decide) fl_M_248 ?_
    try simp (disch := omega) only [e3]
    refine g_if_ge 12 dX10_faults_5 (by decide) (fun c5 => ?_) (fun c5 => ?_)
    · exact absurd c5 (by decide)
    · refine g_iload_n dX10_faults_8 rfl ?_
      refine g_goto 16 dX10_faults_9 (by decide) ?_
      refine g_puti (j := 21) dX10_faults_16 gc10 rfl (by decide) rfl (by decide) fl_M_248 rfl (tyX10_ok 21 (by decide)) (by first | rfl | exact nar_bI _) rfl ?_
      refine g_return dX10_faults_19 rfl ?_
      rw [e]
      exact h _ (EqT.set (by omega)) (hT.fl hp)
  | inr f =>
    have e3 : M 57 21 = nI f := hT.2.2.1
    have hf : f ≤ n := hT.2.1
    have hn := hT.1.1
    refine Call_of (m := mM_faults) [some (.ref 57), some (.int x)] rfl (fun G => Nat.le_of_ble_eq_true rfl) (fun G => rfl) ?_
    refine g_aload_n dX10_faults_0 rfl ?_
    refine g_aload_n dX10_faults_1 rfl ?_
    refine g_geti (j := 21) dX10_faults_2 gc10 rfl (by decide) rfl (by decide) fl_M_248 ?_
    try simp (disch := omega) only [e3]
    refine g_if_ge_n 12 dX10_faults_5 (by decide) (by omega) ?_
    refine g_aload_n dX10_faults_12 rfl ?_
    refine g_geti (j := 21) dX10_faults_13 gc10 rfl (by decide) rfl (by decide) fl_M_248 ?_
    try simp (disch := omega) only [e3]
    refine g_puti (j := 21) dX10_faults_16 gc10 rfl (by decide) rfl (by decide) fl_M_248 rfl (tyX10_ok 21 (by decide)) (by first | rfl | exact nar_bI _) rfl ?_
    refine g_return dX10_faults_19 rfl ?_
    refine h _ (EqT.set (by omega)) ⟨hT.1.eqT (EqT.set (by omega)), hf, ?_, ?_⟩
    · rw [mset_at]
    · rw [mset_off (by omega)]; exact hT.2.2.2
theorem SM_faultsA {d : Nat} {n : Nat} {t : Nat → Nat} {M : Mm} {Q : Po} {x : Int32} {q : TS} (hT : TM n t M q) (hx : x = M 57 20) (h : ∀ M', EqT M M' → TM n t M' (flA q) → Q M' none) : Call (d + 1) mM_faults [.ref 57, .int x] M Q := by
  cases q with
  | inl a => exact SM_faults (p := a) hT (fun b e => by cases e; exact ⟨hx.trans hT.2.2.1, hT.2.1⟩) h
  | inr f => exact SM_faults (p := 0) hT (fun b e => by cases e) h
theorem SM_opensTape {d : Nat} {n : Nat} {t : Nat → Nat} {M : Mm} {Q : Po} (hT : TPm n t M) (h : ∀ M', EqT M M' → TM n t M' (.inl 0) → Q M' none) : Call (d + 1) mM_opensTape [.ref 57] M Q := by
  refine Call_of (m := mM_opensTape) [some (.ref 57)] rfl (fun G => Nat.le_of_ble_eq_true rfl) (fun G => rfl) ?_
  refine g_aload_n dX10_opensTape_0 rfl ?_
  refine g_iconst (nI 0) dX10_opensTape_1 ki_0 ?_
  refine g_puti (j := 20) dX10_opensTape_2 gc10 rfl (by decide) rfl (by decide) fl_M_251 rfl (tyX10_ok 20 (by decide)) (by first | rfl | exact nar_bI _) rfl ?_
  refine g_aload_n dX10_opensTape_5 rfl ?_
  refine g_iconst ((-1)) dX10_opensTape_6 ki_m1 ?_
  refine g_puti (j := 21) dX10_opensTape_7 gc10 rfl (by decide) rfl (by decide) fl_M_248 rfl (tyX10_ok 21 (by decide)) (by first | rfl | exact nar_bI _) rfl ?_
  refine g_return dX10_opensTape_10 rfl ?_
  refine h _ ((EqT.set (by omega)).tr (EqT.set (by omega))) ⟨(hT.eqT (EqT.set (by omega))).eqT (EqT.set (by omega)), Nat.zero_le _, ?_, ?_⟩
  · rw [mset_off (by omega), mset_at]
  · rw [mset_at]
theorem SM_takes {d : Nat} {n : Nat} {t : Nat → Nat} {M : Mm} {Q : Po} {c : Nat} {q : TS} (hc : 1 ≤ c ∧ c < 200) (hT : TM n t M q) (h : ∀ M', EqT M M' → TM n t M' (tkS n t c q) → Q M' (some (.int (bI (tk n t c q))))) : Call (d + 2) mM_takes [.ref 57, .int (nI c)] M Q := by
  have ht := hT.1.2.1
  refine Call_of (m := mM_takes) [some (.ref 57), some (.int (nI c))] rfl (fun G => Nat.le_of_ble_eq_true rfl) (fun G => rfl) ?_
  refine g_aload_n dX10_takes_0 rfl ?_
  refine g_call0 dX10_takes_1 clM_here ml_M_254 gc10 rfl rfl (by decide) (Nat.le_of_ble_eq_true rfl) ?_
  refine SM_here hT ?_
  refine g_iload_n dX10_takes_4 rfl ?_
  refine g_icmp_eq 10 dX10_takes_5 (by decide) (fun c5 => ?_) (fun c5 => ?_)
  · rw [hrV_eq ht hc] at c5
    obtain ⟨a, e, e1, e2, e3⟩ := tkS_t c5 (by omega)
    rw [e1] at h
    subst e
    have e20 : M 57 20 = nI a := hT.2.2.1
    refine g_aload_n dX10_takes_10 rfl ?_
    refine g_dup dX10_takes_11 rfl ?_
    refine g_geti (j := 20) dX10_takes_12 gc10 rfl (by decide) rfl (by decide) fl_M_251 ?_
    try simp (disch := omega) only [e20]
    refine g_iconst (nI 1) dX10_takes_15 ki_1 ?_
    first | refine g_iadd_n dX10_takes_16 ?_ | refine g_iadd dX10_takes_16 ?_
    refine g_puti (j := 20) dX10_takes_17 gc10 rfl (by decide) rfl (by decide) fl_M_251 rfl (tyX10_ok 20 (by decide)) (by first | rfl | exact nar_bI _) rfl ?_
    refine g_iconst (nI 1) dX10_takes_20 ki_1 ?_
    refine g_ireturn dX10_takes_21 rfl (by first | rfl | exact nar_bI _) ?_
    exact qb_t (h _ (EqT.set (by omega)) (hT.set (by omega))) c5
  · rw [hrV_eq ht hc] at c5
    have c5 := Bool.eq_false_iff.mpr c5
    refine g_iconst (nI 0) dX10_takes_8 ki_0 ?_
    refine g_ireturn dX10_takes_9 rfl (by first | rfl | exact nar_bI _) ?_
    exact qb_f (h M EqT.rf (by rw [tkS_f c5]; exact hT)) c5
theorem SM_must {d : Nat} {n : Nat} {t : Nat → Nat} {M : Mm} {Q : Po} {c : Nat} {q : TS} (hc : 1 ≤ c ∧ c < 200) (hT : TM n t M q) (h : ∀ M', EqT M M' → TM n t M' (mu n t c q) → Q M' none) : Call (d + 3) mM_must [.ref 57, .int (nI c)] M Q := by
  refine Call_of (m := mM_must) [some (.ref 57), some (.int (nI c))] rfl (fun G => Nat.le_of_ble_eq_true rfl) (fun G => rfl) ?_
  refine g_aload_n dX10_must_0 rfl ?_
  refine g_iload_n dX10_must_1 rfl ?_
  refine g_call1 dX10_must_2 clM_takes ml_M_257 gc10 rfl rfl (by decide) (Nat.le_of_ble_eq_true rfl) ?_
  refine SM_takes hc hT (fun M1 hE1 hT1 => ?_)
  refine g_if_ne_b 16 dX10_must_5 (by decide) (fun c5 => ?_) (fun c5 => ?_)
  · refine g_return dX10_must_16 rfl ?_
    refine h M1 hE1 ?_
    cases q with
    | inl a =>
      have c5 : tb n t a = c := of_decide_eq_true c5
      simp only [tkS, mu] at hT1 ⊢
      rw [if_pos c5] at hT1 ⊢
      exact hT1
    | inr f => cases c5
  · refine g_aload_n dX10_must_8 rfl ?_
    refine g_aload_n dX10_must_9 rfl ?_
    refine g_geti (j := 20) dX10_must_10 gc10 rfl (by decide) rfl (by decide) fl_M_251 ?_
    refine g_call1 dX10_must_13 clM_faults ml_M_260 gc10 rfl rfl (by decide) (Nat.le_of_ble_eq_true rfl) ?_
    refine SM_faultsA hT1 rfl (fun M2 hE2 hT2 => ?_)
    refine g_return dX10_must_16 rfl ?_
    refine h M2 (hE1.tr hE2) ?_
    cases q with
    | inl a =>
      have c5 : ¬ tb n t a = c := of_decide_eq_false c5
      simp only [tkS, mu] at hT2 ⊢
      rw [if_neg c5] at hT2 ⊢
      exact hT2
    | inr f => exact hT2
theorem inJ_dg {n : Nat} {t : Nat → Nat} {a : Nat} (ht : ∀ i, i < n → 1 ≤ t i ∧ t i ≤ 127) : inJ (hrV n t (.inl a)).toInt64 48 57 = dgt (tb n t a) := by
  unfold inJ dgt
  rw [Int32.toInt_toInt64]
  have e1 : (48 : Int64).toInt = 48 := by decide
  have e2 : (57 : Int64).toInt = 57 := by decide
  rw [e1, e2]
  congr 1
  by_cases z : a < n
  · have := ht a z
    rw [hrV_tb z, show tb n t a = t a from if_pos z, nI_toInt (by omega)]
    exact propext ⟨fun q => by omega, fun q => by omega⟩
  · rw [show hrV n t (.inl a) = -1 from if_neg z, show tb n t a = 0 from if_neg z, show (-1 : Int32).toInt = -1 from by decide]
    exact propext ⟨fun q => by omega, fun q => by omega⟩
theorem SM_number {d : Nat} {n : Nat} {t : Nat → Nat} {M : Mm} {Q : Po} {lo hi : Nat} {x y : Int32} {q : TS} (hT : TM n t M q) (hxy : okB q = true → x = nI lo ∧ y = nI hi) (hlo : lo < 1000) (hhi : hi < 1000) (h : ∀ M' v, EqT M M' → TM n t M' (nuS n t lo hi q) → (okB q = true → v = nI (nuV n t q)) → Q M' (some (.int v))) : Call (d + 2) mM_number [.ref 57, .int x, .int y] M Q := by
  have ht := hT.1.2.1
  have hn := hT.1.1
  cases q with
  | inr f =>
    obtain ⟨a, ha, e2, _⟩ := hT.at
    refine Call_of (m := mM_number) [some (.ref 57), some (.int x), some (.int y), none] rfl (fun G => Nat.le_of_ble_eq_true rfl) (fun G => rfl) ?_
    refine g_aload_n dX10_number_0 rfl ?_
    refine g_aload_n dX10_number_1 rfl ?_
    refine g_geti (j := 20) dX10_number_2 gc10 rfl (by decide) rfl (by decide) fl_M_251 ?_
    try simp (disch := omega) only [e2]
    refine g_puti (j := 22) dX10_number_5 gc10 rfl (by decide) rfl (by decide) fl_M_263 rfl (tyX10_ok 22 (by decide)) (by first | rfl | exact nar_bI _) rfl ?_
    refine g_iconst (nI 0) dX10_number_8 ki_0 ?_
    refine g_ist4_3 dX10_number_9 (by decide) rfl ?_
    generalize hM0 : mset M 57 22 (nI a) = M0
    have hE0 : EqT M M0 := by rw [← hM0]; exact EqT.set (by omega)
    have hT0 : TM n t M0 (.inr f) := by rw [← hM0]; exact hT.off (mset_ne (by decide)) (fun j hj => mset_off (by omega))
    have e20 : M0 57 20 = nI a := by rw [← hM0, mset_off (by omega)]; exact e2
    have e22 : M0 57 22 = nI a := by rw [← hM0, mset_at]
    clear hM0
    refine g_aload_n dX10_number_10 rfl ?_
    refine g_call0 dX10_number_11 clM_here ml_M_254 gc10 rfl rfl (by decide) (Nat.le_of_ble_eq_true rfl) ?_
    refine SM_here hT0 ?_
    refine g_i2l dX10_number_14 ?_
    refine g_ldc2w (48) dX10_number_15 kl_M_266 ?_
    refine g_ldc2w (57) dX10_number_18 kl_M_268 ?_
    refine g_calls3 dX10_number_21 clM_in ml_M_68 (Nat.le_of_ble_eq_true rfl) ?_
    refine SM_in _ _ _ ?_
    rw [show inJ (hrV n t (.inr f)).toInt64 48 57 = false from by simp only [hrV]; decide]
    refine g_if_eq_ff 66 dX10_number_24 (by decide) ?_
    refine g_aload_n dX10_number_66 rfl ?_
    refine g_geti (j := 20) dX10_number_67 gc10 rfl (by decide) rfl (by decide) fl_M_251 ?_
    try simp (disch := omega) only [e20, e22]
    refine g_aload_n dX10_number_70 rfl ?_
    refine g_geti (j := 22) dX10_number_71 gc10 rfl (by decide) rfl (by decide) fl_M_263 ?_
    try simp (disch := omega) only [e20, e22]
    refine g_icmp_eq_n 89 dX10_number_74 (by decide) (by omega) (by omega) (fun c74 => ?_) (fun c74 => ?_)
    · refine g_aload_n dX10_number_89 rfl ?_
      refine g_aload_n dX10_number_90 rfl ?_
      refine g_geti (j := 22) dX10_number_91 gc10 rfl (by decide) rfl (by decide) fl_M_263 ?_
      try simp (disch := omega) only [e20, e22]
      refine g_call1 dX10_number_94 clM_faults ml_M_260 gc10 rfl rfl (by decide) (Nat.le_of_ble_eq_true rfl) ?_
      refine SM_faults (p := 0) hT0 (fun b e => by cases e) (fun M1 hE1 hT1 => ?_)
      refine g_iload_n dX10_number_97 rfl ?_
      refine g_ireturn dX10_number_98 rfl (by first | rfl | exact nar_bI _) ?_
      exact h M1 (nI 0) (hE0.tr hE1) hT1 (fun z => by cases z)
    · exact absurd rfl c74
  | inl a =>
    obtain ⟨ex, ey⟩ := hxy rfl
    subst ex
    subst ey
    have ha : a ≤ n := hT.2.1
    have e2 : M 57 20 = nI a := hT.2.2.1
    have hend : ∀ (i v : Nat) (M2 : Mm), a + i ≤ n → v < 1000 → EqT M M2 → TM n t M2 (.inl (a + i)) → M2 57 22 = nI a → nuG n t 3 a 0 = (a + i, v) → Go mM_number (d + 2) Q 66 [some (.ref 57), some (.int (nI lo)), some (.int (nI hi)), some (.int (nI v))] [] M2 := by
      intro i v M2 hai hv hE2 hT2 h22 hg
      have h20 : M2 57 20 = nI (a + i) := hT2.2.2.1
      have hS : nuS n t lo hi (.inl a) = if a + i = a ∨ ¬ (lo ≤ v ∧ v ≤ hi) then .inr a else .inl (a + i) := by
        simp only [nuS]
        rw [hg]
      have hV : nuV n t (.inl a) = v := by
        simp only [nuV]
        rw [hg]
      have hbad : nuS n t lo hi (.inl a) = .inr a → Go mM_number (d + 2) Q 89 [some (.ref 57), some (.int (nI lo)), some (.int (nI hi)), some (.int (nI v))] [] M2 := by
        intro e
        refine g_aload_n dX10_number_89 rfl ?_
        refine g_aload_n dX10_number_90 rfl ?_
        refine g_geti (j := 22) dX10_number_91 gc10 rfl (by decide) rfl (by decide) fl_M_263 ?_
        try simp (disch := omega) only [h22]
        refine g_call1 dX10_number_94 clM_faults ml_M_260 gc10 rfl rfl (by decide) (Nat.le_of_ble_eq_true rfl) ?_
        refine SM_faults (p := a) hT2 (fun b _ => ⟨rfl, ha⟩) (fun M3 hE3 hT3 => ?_)
        refine g_iload_n dX10_number_97 rfl ?_
        refine g_ireturn dX10_number_98 rfl (by first | rfl | exact nar_bI _) ?_
        exact h M3 _ (hE2.tr hE3) (by rw [e]; exact hT3) (fun _ => by rw [hV])
      refine g_aload_n dX10_number_66 rfl ?_
      refine g_geti (j := 20) dX10_number_67 gc10 rfl (by decide) rfl (by decide) fl_M_251 ?_
      try simp (disch := omega) only [h20, h22]
      refine g_aload_n dX10_number_70 rfl ?_
      refine g_geti (j := 22) dX10_number_71 gc10 rfl (by decide) rfl (by decide) fl_M_263 ?_
      try simp (disch := omega) only [h20, h22]
      refine g_icmp_eq_n 89 dX10_number_74 (by decide) (by omega) (by omega) (fun c74 => ?_) (fun c74 => ?_)
      · exact hbad (by rw [hS, if_pos (Or.inl c74)])
      · refine g_iload_n dX10_number_77 rfl ?_
        refine g_i2l dX10_number_78 ?_
        refine g_iload_n dX10_number_79 rfl ?_
        refine g_i2l dX10_number_80 ?_
        refine g_iload_n dX10_number_81 rfl ?_
        refine g_i2l dX10_number_82 ?_
        refine g_calls3 dX10_number_83 clM_in ml_M_68 (Nat.le_of_ble_eq_true rfl) ?_
        refine SM_in _ _ _ ?_
        rw [inJ_N (by omega) (by omega) (by omega)]
        refine g_if_ne_b 97 dX10_number_86 (by decide) (fun c86 => ?_) (fun c86 => ?_)
        · have c86 := of_decide_eq_true c86
          refine g_iload_n dX10_number_97 rfl ?_
          refine g_ireturn dX10_number_98 rfl (by first | rfl | exact nar_bI _) ?_
          exact h M2 _ hE2 (by rw [hS, if_neg (by omega)]; exact hT2) (fun _ => by rw [hV])
        · have c86 := of_decide_eq_false c86
          exact hbad (by rw [hS, if_pos (Or.inr c86)])
    refine Call_of (m := mM_number) [some (.ref 57), some (.int (nI lo)), some (.int (nI hi)), none] rfl (fun G => Nat.le_of_ble_eq_true rfl) (fun G => rfl) ?_
    refine g_aload_n dX10_number_0 rfl ?_
    refine g_aload_n dX10_number_1 rfl ?_
    refine g_geti (j := 20) dX10_number_2 gc10 rfl (by decide) rfl (by decide) fl_M_251 ?_
    try simp (disch := omega) only [e2]
    refine g_puti (j := 22) dX10_number_5 gc10 rfl (by decide) rfl (by decide) fl_M_263 rfl (tyX10_ok 22 (by decide)) (by first | rfl | exact nar_bI _) rfl ?_
    refine g_iconst (nI 0) dX10_number_8 ki_0 ?_
    refine g_ist4_3 dX10_number_9 (by decide) rfl ?_
    suffices hloop : ∀ k i v M', i + k = 3 → a + i ≤ n → v < 10 ^ i → EqT M M' → TM n t M' (.inl (a + i)) → M' 57 22 = nI a → nuG n t 3 a 0 = nuG n t k (a + i) v → Go mM_number (d + 2) Q 10 [some (.ref 57), some (.int (nI lo)), some (.int (nI hi)), some (.int (nI v))] [] M' by
      exact hloop 3 0 0 _ rfl ha (by decide) (EqT.set (by omega)) (hT.off (mset_ne (by decide)) (fun j hj => mset_off (by omega))) (mset_at _ _ _ _) rfl
    intro k
    induction k with
    | zero =>
      intro i v M' hik hai hv hE hT2 h22 hg
      have h1000 : v < 1000 := by
        rw [show i = 3 by omega] at hv
        exact hv
      have h20 : M' 57 20 = nI (a + i) := hT2.2.2.1
      refine g_aload_n dX10_number_10 rfl ?_
      refine g_call0 dX10_number_11 clM_here ml_M_254 gc10 rfl rfl (by decide) (Nat.le_of_ble_eq_true rfl) ?_
      refine SM_here hT2 ?_
      refine g_i2l dX10_number_14 ?_
      refine g_ldc2w (48) dX10_number_15 kl_M_266 ?_
      refine g_ldc2w (57) dX10_number_18 kl_M_268 ?_
      refine g_calls3 dX10_number_21 clM_in ml_M_68 (Nat.le_of_ble_eq_true rfl) ?_
      refine SM_in _ _ _ ?_
      rw [inJ_dg ht]
      refine g_if_eq_b 66 dX10_number_24 (by decide) (fun c24 => ?_) (fun c24 => ?_)
      · exact hend i v M' hai h1000 hE hT2 h22 hg
      · refine g_aload_n dX10_number_27 rfl ?_
        refine g_geti (j := 20) dX10_number_28 gc10 rfl (by decide) rfl (by decide) fl_M_251 ?_
        try simp (disch := omega) only [h20, h22]
        refine g_aload_n dX10_number_31 rfl ?_
        refine g_geti (j := 22) dX10_number_32 gc10 rfl (by decide) rfl (by decide) fl_M_263 ?_
        try simp (disch := omega) only [h20, h22]
        first | refine g_isub_n dX10_number_35 (by omega) ?_ | refine g_isub dX10_number_35 ?_
        refine g_iconst (nI 3) dX10_number_36 ki_3 ?_
        refine g_icmp_ge_n 66 dX10_number_37 (by decide) (by omega) (by omega) (fun c37 => ?_) (fun c37 => ?_)
        · exact hend i v M' hai h1000 hE hT2 h22 hg
        · exact absurd hik (by omega)
    | succ k ih =>
      intro i v M' hik hai hv hE hT2 h22 hg
      have hb := hT2.1.tb_le (a + i)
      have hp : 10 ^ i ≤ 10 ^ 3 := Nat.pow_le_pow_right (by decide) (by omega)
      have h1000 : v < 1000 := Nat.lt_of_lt_of_le hv hp
      have h20 : M' 57 20 = nI (a + i) := hT2.2.2.1
      refine g_aload_n dX10_number_10 rfl ?_
      refine g_call0 dX10_number_11 clM_here ml_M_254 gc10 rfl rfl (by decide) (Nat.le_of_ble_eq_true rfl) ?_
      refine SM_here hT2 ?_
      refine g_i2l dX10_number_14 ?_
      refine g_ldc2w (48) dX10_number_15 kl_M_266 ?_
      refine g_ldc2w (57) dX10_number_18 kl_M_268 ?_
      refine g_calls3 dX10_number_21 clM_in ml_M_68 (Nat.le_of_ble_eq_true rfl) ?_
      refine SM_in _ _ _ ?_
      rw [inJ_dg ht]
      refine g_if_eq_b 66 dX10_number_24 (by decide) (fun c24 => ?_) (fun c24 => ?_)
      · have hg := hg.trans (show nuG n t (k + 1) (a + i) v = (a + i, v) by rw [nuG, if_neg (by rw [c24]; decide)])
        exact hend i v M' hai h1000 hE hT2 h22 hg
      · have hg := hg.trans (show nuG n t (k + 1) (a + i) v = nuG n t k (a + i + 1) (v * 10 + (tb n t (a + i) - 48)) by rw [nuG, if_pos c24])
        have hd : 48 ≤ tb n t (a + i) ∧ tb n t (a + i) ≤ 57 := of_decide_eq_true c24
        have hlt := tb_lt (n := n) (t := t) (i := a + i) rfl (by omega)
        refine g_aload_n dX10_number_27 rfl ?_
        refine g_geti (j := 20) dX10_number_28 gc10 rfl (by decide) rfl (by decide) fl_M_251 ?_
        try simp (disch := omega) only [h20, h22]
        refine g_aload_n dX10_number_31 rfl ?_
        refine g_geti (j := 22) dX10_number_32 gc10 rfl (by decide) rfl (by decide) fl_M_263 ?_
        try simp (disch := omega) only [h20, h22]
        first | refine g_isub_n dX10_number_35 (by omega) ?_ | refine g_isub dX10_number_35 ?_
        refine g_iconst (nI 3) dX10_number_36 ki_3 ?_
        refine g_icmp_ge_n 66 dX10_number_37 (by decide) (by omega) (by omega) (fun c37 => ?_) (fun c37 => ?_)
        · exact absurd hik (by omega)
        · refine g_bipush (nI 10) dX10_number_40 kb_10 ?_
          refine g_iload_n dX10_number_42 rfl ?_
          first | refine g_imul_n dX10_number_43 ?_ | refine g_imul dX10_number_43 ?_
          refine g_aload_n dX10_number_44 rfl ?_
          refine g_call0 dX10_number_45 clM_here ml_M_254 gc10 rfl rfl (by decide) (Nat.le_of_ble_eq_true rfl) ?_
          refine SM_here hT2 ?_
          rw [hrV_tb hlt]
          first | refine g_iadd_n dX10_number_48 ?_ | refine g_iadd dX10_number_48 ?_
          refine g_bipush (nI 48) dX10_number_49 kb_48 ?_
          first | refine g_isub_n dX10_number_51 (by omega) ?_ | refine g_isub dX10_number_51 ?_
          refine g_ist4_3 dX10_number_52 (by decide) rfl ?_
          refine g_aload_n dX10_number_53 rfl ?_
          refine g_dup dX10_number_54 rfl ?_
          refine g_geti (j := 20) dX10_number_55 gc10 rfl (by decide) rfl (by decide) fl_M_251 ?_
          try simp (disch := omega) only [h20, h22]
          refine g_iconst (nI 1) dX10_number_58 ki_1 ?_
          first | refine g_iadd_n dX10_number_59 ?_ | refine g_iadd dX10_number_59 ?_
          refine g_puti (j := 20) dX10_number_60 gc10 rfl (by decide) rfl (by decide) fl_M_251 rfl (tyX10_ok 20 (by decide)) (by first | rfl | exact nar_bI _) rfl ?_
          refine g_goto 10 dX10_number_63 (by decide) ?_
          refine ih (i + 1) _ _ (by omega) (by omega) ?_ (hE.tr (EqT.set (by omega))) (hT2.set (by omega)) ?_ ?_
          · rw [Nat.pow_succ]; omega
          · rw [mset_off (by omega)]; exact h22
          · rw [hg, show 10 * v + tb n t (a + i) - 48 = v * 10 + (tb n t (a + i) - 48) by omega]
            rfl
theorem SM_kindLetter {d : Nat} {n : Nat} {t : Nat → Nat} {M : Mm} {Q : Po} {q : TS} (hT : TM n t M q) (hC : MC M) (h : ∀ M', EqT M M' → TM n t M' (kdS n t q) → Q M' (some (.int (if kdV n t q = 4 then nI 0 else nI (kdV n t q))))) : Call (d + 3) mM_kindLetter [.ref 57] M Q := by
  refine Call_of (m := mM_kindLetter) [some (.ref 57), none] rfl (fun G => Nat.le_of_ble_eq_true rfl) (fun G => rfl) ?_
  refine g_iconst (nI 0) dX10_kindLetter_0 ki_0 ?_
  refine g_ist2_1 dX10_kindLetter_1 (by decide) rfl ?_
  refine loop_up (P := fun i => ∀ M', EqT M M' → TM n t M' q → (∀ k, k < i → tk n t (lw k) q = false) → Go mM_kindLetter (d + 3) Q 2 [some (.ref 57), some (.int (nI i))] [] M') 4 ?_ 0 (Nat.zero_le _) M EqT.rf hT (fun k hk => absurd hk (by omega))
  intro i hi ih M' hE hT2 hm
  refine g_iload_n dX10_kindLetter_2 rfl ?_
  refine g_iconst (nI 4) dX10_kindLetter_3 ki_4 ?_
  refine g_icmp_ge_n 28 dX10_kindLetter_4 (by decide) (by omega) (by omega) (fun c4 => ?_) (fun c4 => ?_)
  · obtain ⟨r1, r2⟩ := kd_miss (n := n) (t := t) (q := q) (fun k hk => hm k (by omega))
    refine g_aload_n dX10_kindLetter_28 rfl ?_
    refine g_aload_n dX10_kindLetter_29 rfl ?_
    refine g_geti (j := 20) dX10_kindLetter_30 gc10 rfl (by decide) rfl (by decide) fl_M_251 ?_
    refine g_call1 dX10_kindLetter_33 clM_faults ml_M_260 gc10 rfl rfl (by decide) (Nat.le_of_ble_eq_true rfl) ?_
    refine SM_faultsA hT2 rfl (fun M3 hE3 hT3 => ?_)
    refine g_iconst (nI 0) dX10_kindLetter_36 ki_0 ?_
    refine g_ireturn dX10_kindLetter_37 rfl (by first | rfl | exact nar_bI _) ?_
    have h := h M3 (hE.tr hE3) (by rw [r1]; exact hT3)
    rw [r2, if_pos rfl] at h
    exact h
  · have e60 : M' 60 i = nI (lw i) := by rw [hE 60 i (by omega)]; exact hC.1 i (by omega)
    refine g_aload_n dX10_kindLetter_7 rfl ?_
    refine g_aload_n dX10_kindLetter_8 rfl ?_
    refine g_getr (j := 3) dX10_kindLetter_9 gc10 rfl (by decide) rfl (by decide) fl_M_16 ?_
    refine g_iload_n dX10_kindLetter_12 rfl ?_
    refine g_iald_n dX10_kindLetter_13 (by first | rfl | assumption) (by first | decide | assumption) (by omega) (by omega) ?_
    try simp (disch := omega) only [e60]
    refine g_call1 dX10_kindLetter_14 clM_takes ml_M_257 gc10 rfl rfl (by decide) (Nat.le_of_ble_eq_true rfl) ?_
    refine SM_takes (lw_ge (by omega)) hT2 (fun M3 hE3 hT3 => ?_)
    refine g_if_eq_b 22 dX10_kindLetter_17 (by decide) (fun c17 => ?_) (fun c17 => ?_)
    · rw [tkS_f c17] at hT3
      first | refine g_incn2_1 dX10_kindLetter_22 ki_1 (by decide) rfl ?_ | refine g_incg2_1 (nI 1) dX10_kindLetter_22 ki_1 (by decide) rfl ?_
      refine g_goto 2 dX10_kindLetter_25 (by decide) ?_
      refine ih (by omega) M3 (hE.tr hE3) hT3 (fun k hk => ?_)
      by_cases e : k = i
      · rw [e]; exact c17
      · exact hm k (by omega)
    · obtain ⟨r1, r2⟩ := kd_hit (by omega) c17
      refine g_iload_n dX10_kindLetter_20 rfl ?_
      refine g_ireturn dX10_kindLetter_21 rfl (by first | rfl | exact nar_bI _) ?_
      have h := h M3 (hE.tr hE3) (by rw [r1]; exact hT3)
      rw [r2, if_neg (by omega)] at h
      exact h
def clV (w : Int32) : TS → Int32
  | .inl _ => w
  | .inr f => -100 - nI f
theorem SM_closes {d : Nat} {n : Nat} {t : Nat → Nat} {M : Mm} {Q : Po} {q : TS} (w : Int32) (hT : TM n t M q) (h : ∀ M', (∀ k j, ¬ (k = 57 ∧ (j = 19 ∨ j = 20 ∨ j = 21 ∨ j = 22)) → M' k j = M k j) → M' 57 19 = nI 0 → Q M' (some (.int (clV w (enS n q))))) : Call (d + 2) mM_closes [.ref 57, .int w] M Q := by
  obtain ⟨a, ha, e2, ea⟩ := hT.at
  have hn := hT.1.1
  have e19 : M 57 19 = nI n := hT.1.2.2.1
  have hend : ∀ M2, EqT M M2 → TM n t M2 (enS n q) → Go mM_closes (d + 2) Q 19 [some (.ref 57), some (.int w)] [] M2 := by
    intro M2 hE2 hT2
    have h := h (mset M2 57 19 (nI 0)) (fun k j hk => by rw [mset_off (by omega), hE2 k j (by omega)]) (mset_at _ _ _ _)
    generalize enS n q = r at hT2 h
    cases r with
    | inl b =>
      have e21 : mset M2 57 19 (nI 0) 57 21 = -1 := by rw [mset_off (by omega)]; exact hT2.2.2.2
      refine g_aload_n dX10_closes_19 rfl ?_
      refine g_iconst (nI 0) dX10_closes_20 ki_0 ?_
      refine g_puti (j := 19) dX10_closes_21 gc10 rfl (by decide) rfl (by decide) fl_M_245 rfl (tyX10_ok 19 (by decide)) (by first | rfl | exact nar_bI _) rfl ?_
      refine g_aload_n dX10_closes_24 rfl ?_
      refine g_geti (j := 21) dX10_closes_25 gc10 rfl (by decide) rfl (by decide) fl_M_248 ?_
      try simp (disch := omega) only [e21]
      refine g_if_lt 41 dX10_closes_28 (by decide) (fun c28 => ?_) (fun c28 => ?_)
      · refine g_iload_n dX10_closes_41 rfl ?_
        refine g_ireturn dX10_closes_42 rfl (by first | rfl | exact nar_bI _) ?_
        exact h
      · exact absurd c28 (by decide)
    | inr f =>
      have e21 : mset M2 57 19 (nI 0) 57 21 = nI f := by rw [mset_off (by omega)]; exact hT2.2.2.1
      have hf : f ≤ n := hT2.2.1
      refine g_aload_n dX10_closes_19 rfl ?_
      refine g_iconst (nI 0) dX10_closes_20 ki_0 ?_
      refine g_puti (j := 19) dX10_closes_21 gc10 rfl (by decide) rfl (by decide) fl_M_245 rfl (tyX10_ok 19 (by decide)) (by first | rfl | exact nar_bI _) rfl ?_
      refine g_aload_n dX10_closes_24 rfl ?_
      refine g_geti (j := 21) dX10_closes_25 gc10 rfl (by decide) rfl (by decide) fl_M_248 ?_
      try simp (disch := omega) only [e21]
      refine g_if_lt_n 41 dX10_closes_28 (by decide) (by omega) ?_
      refine g_bipush ((-100)) dX10_closes_31 kb_m100 ?_
      refine g_aload_n dX10_closes_33 rfl ?_
      refine g_geti (j := 21) dX10_closes_34 gc10 rfl (by decide) rfl (by decide) fl_M_248 ?_
      try simp (disch := omega) only [e21]
      first | refine g_isub_n dX10_closes_37 (by omega) ?_ | refine g_isub dX10_closes_37 ?_
      refine g_goto 42 dX10_closes_38 (by decide) ?_
      refine g_ireturn dX10_closes_42 rfl (by first | rfl | exact nar_bI _) ?_
      exact h
  refine Call_of (m := mM_closes) [some (.ref 57), some (.int w)] rfl (fun G => Nat.le_of_ble_eq_true rfl) (fun G => rfl) ?_
  refine g_aload_n dX10_closes_0 rfl ?_
  refine g_geti (j := 20) dX10_closes_1 gc10 rfl (by decide) rfl (by decide) fl_M_251 ?_
  try simp (disch := omega) only [e2, e19]
  refine g_aload_n dX10_closes_4 rfl ?_
  refine g_geti (j := 19) dX10_closes_5 gc10 rfl (by decide) rfl (by decide) fl_M_245 ?_
  try simp (disch := omega) only [e2, e19]
  refine g_icmp_ge_n 19 dX10_closes_8 (by decide) (by omega) (by omega) (fun c8 => ?_) (fun c8 => ?_)
  · refine hend M EqT.rf ?_
    cases q with
    | inl b =>
      obtain rfl := ea b rfl
      simp only [enS]
      rw [if_neg (by omega)]
      exact hT
    | inr f => exact hT
  · refine g_aload_n dX10_closes_11 rfl ?_
    refine g_aload_n dX10_closes_12 rfl ?_
    refine g_geti (j := 20) dX10_closes_13 gc10 rfl (by decide) rfl (by decide) fl_M_251 ?_
    try simp (disch := omega) only [e2, e19]
    refine g_call1 dX10_closes_16 clM_faults ml_M_260 gc10 rfl rfl (by decide) (Nat.le_of_ble_eq_true rfl) ?_
    refine SM_faultsA hT e2.symm (fun M3 hE3 hT3 => ?_)
    refine hend M3 hE3 ?_
    cases q with
    | inl b =>
      obtain rfl := ea b rfl
      simp only [enS]
      rw [if_pos (by omega)]
      exact hT3
    | inr f => exact hT3
