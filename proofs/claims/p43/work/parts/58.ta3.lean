/-! THE TAPE in the reference -/
def EqT (M M' : Mm) : Prop := ∀ k j, ¬ (k = 57 ∧ (j = 20 ∨ j = 21 ∨ j = 22)) → M' k j = M k j
theorem EqT.rf {M : Mm} : EqT M M := fun _ _ _ => rfl
theorem EqT.tr {M M1 M2 : Mm} (h1 : EqT M M1) (h2 : EqT M1 M2) : EqT M M2 := fun k j h => (h2 k j h).trans (h1 k j h)
theorem EqT.set {M : Mm} {j : Nat} {v : Int32} (h : j = 20 ∨ j = 21 ∨ j = 22) : EqT M (mset M 57 j v) := fun k i hk => mset_off (fun z => hk (by omega))
theorem EqT.row {M M' : Mm} (h : EqT M M') {k : Nat} (hk : k ≠ 57) : M' k = M k := funext fun j => h k j (fun z => hk z.1)
theorem EqT.q {M M' : Mm} (h : EqT M M') : EqQ [] M M' := fun k j _ hj => h k j (fun z => by have := hj z.1; omega)
def TPm (n : Nat) (t : Nat → Nat) (M : Mm) : Prop := n ≤ 150 ∧ (∀ i, i < n → 1 ≤ t i ∧ t i ≤ 127) ∧ M 57 19 = nI n ∧ ∀ i, i < n → M 69 i = nI (t i)
def TM (n : Nat) (t : Nat → Nat) (M : Mm) (q : TS) : Prop := TPm n t M ∧ STp n (M 57 20) (M 57 21) q
theorem TPm.tb_le {n : Nat} {t : Nat → Nat} {M : Mm} (h : TPm n t M) (i : Nat) : tb n t i ≤ 127 := by
  unfold tb
  split
  · rename_i z; exact (h.2.1 i z).2
  · omega
theorem TPm.eqT {n : Nat} {t : Nat → Nat} {M M' : Mm} (h : TPm n t M) (hE : EqT M M') : TPm n t M' := by
  refine ⟨h.1, h.2.1, ?_, fun i hi => ?_⟩
  · rw [hE 57 19 (by omega)]; exact h.2.2.1
  · rw [hE 69 i (by omega)]; exact h.2.2.2 i hi
theorem TM.off {n : Nat} {t : Nat → Nat} {M M' : Mm} {q : TS} (h : TM n t M q) (h1 : M' 69 = M 69) (h2 : ∀ j, j = 19 ∨ j = 20 ∨ j = 21 → M' 57 j = M 57 j) : TM n t M' q := by
  unfold TM TPm at h ⊢
  rw [h1, h2 19 (by omega), h2 20 (by omega), h2 21 (by omega)]
  exact h
theorem TM.set {n : Nat} {t : Nat → Nat} {M : Mm} {a b : Nat} (h : TM n t M (.inl a)) (hb : b ≤ n) : TM n t (mset M 57 20 (nI b)) (.inl b) := by
  refine ⟨h.1.eqT (EqT.set (by omega)), hb, ?_, ?_⟩
  · rw [mset_at]
  · rw [mset_off (by omega)]; exact h.2.2.2
theorem TM.fl {n : Nat} {t : Nat → Nat} {M : Mm} {a b : Nat} (h : TM n t M (.inl a)) (hb : b ≤ n) : TM n t (mset M 57 21 (nI b)) (.inr b) := by
  refine ⟨h.1.eqT (EqT.set (by omega)), hb, ?_, a, h.2.1, ?_⟩
  · rw [mset_at]
  · rw [mset_off (by omega)]; exact h.2.2.1
theorem TM.at {n : Nat} {t : Nat → Nat} {M : Mm} {q : TS} (h : TM n t M q) : ∃ a, a ≤ n ∧ M 57 20 = nI a ∧ (∀ b, q = .inl b → b = a) := by
  cases q with
  | inl a => exact ⟨a, h.2.1, h.2.2.1, fun b e => by cases e; rfl⟩
  | inr f =>
    obtain ⟨a, h1, h2⟩ := h.2.2.2
    exact ⟨a, h1, h2, fun b e => by cases e⟩
/-- the sign that stands here; none: -1 -/
def hrV (n : Nat) (t : Nat → Nat) : TS → Int32
  | .inl a => if a < n then nI (t a) else -1
  | .inr _ => -1
theorem hrV_tb {n : Nat} {t : Nat → Nat} {a : Nat} (h : a < n) : hrV n t (.inl a) = nI (tb n t a) := by
  rw [show hrV n t (.inl a) = nI (t a) from if_pos h, show tb n t a = t a from if_pos h]
theorem hrV_eq {n : Nat} {t : Nat → Nat} {q : TS} {c : Nat} (ht : ∀ i, i < n → 1 ≤ t i ∧ t i ≤ 127) (hc : 1 ≤ c ∧ c < 200) : hrV n t q = nI c ↔ tk n t c q = true := by
  cases q with
  | inl a =>
    show (if a < n then nI (t a) else -1) = nI c ↔ decide (tb n t a = c) = true
    rw [decide_eq_true_eq]
    unfold tb
    by_cases z : a < n
    · rw [if_pos z, if_pos z]
      have := ht a z
      exact nI_eq (by omega) (by omega)
    · rw [if_neg z, if_neg z]
      exact ⟨fun e => absurd e.symm (nI_m1 (by omega)), fun e => by omega⟩
  | inr f =>
    simp only [hrV, tk]
    exact ⟨fun e => absurd e.symm (nI_m1 (by omega)), fun e => by cases e⟩
theorem SM_here {d : Nat} {n : Nat} {t : Nat → Nat} {M : Mm} {Q : Po} {q : TS} (hT : TM n t M q) (h : Q M (some (.int (hrV n t q)))) : Call (d + 1) mM_here [.ref 57] M Q := by
  obtain ⟨⟨hn, ht, e1, e4⟩, hS⟩ := hT
  cases q with
  | inl a =>
    obtain ⟨ha, e2, e3⟩ := hS
    simp only [hrV] at h
    refine Call_of (m := mM_here) [some (.ref 57)] rfl (fun G => Nat.le_of_ble_eq_true rfl) (fun G => rfl) ?_
    refine g_aload_n dX10_here_0 rfl ?_
    refine g_geti (j := 21) dX10_here_1 gc10 rfl (by decide) rfl (by decide) fl_M_248 ?_
    try simp (disch := omega) only [e1, e2, e3, e4]
    refine g_if_ge 30 dX10_here_4 (by decide) (fun c4 => ?_) (fun c4 => ?_)
    · exact absurd c4 (by decide)
    · refine g_aload_n dX10_here_7 rfl ?_
      refine g_geti (j := 20) dX10_here_8 gc10 rfl (by decide) rfl (by decide) fl_M_251 ?_
      try simp (disch := omega) only [e1, e2, e3, e4]
      refine g_aload_n dX10_here_11 rfl ?_
      refine g_geti (j := 19) dX10_here_12 gc10 rfl (by decide) rfl (by decide) fl_M_245 ?_
      try simp (disch := omega) only [e1, e2, e3, e4]
      refine g_icmp_ge_n 30 dX10_here_15 (by decide) (by omega) (by omega) (fun c15 => ?_) (fun c15 => ?_)
      · rw [if_neg (by omega)] at h
        refine g_iconst ((-1)) dX10_here_30 ki_m1 ?_
        refine g_ireturn dX10_here_31 rfl (by first | rfl | exact nar_bI _) ?_
        exact h
      · rw [if_pos (by omega)] at h
        refine g_aload_n dX10_here_18 rfl ?_
        refine g_getr (j := 18) dX10_here_19 gc10 rfl (by decide) rfl (by decide) fl_M_44 ?_
        refine g_aload_n dX10_here_22 rfl ?_
        refine g_geti (j := 20) dX10_here_23 gc10 rfl (by decide) rfl (by decide) fl_M_251 ?_
        try simp (disch := omega) only [e1, e2, e3, e4]
        refine g_iald_n dX10_here_26 (by first | rfl | assumption) (by first | decide | assumption) (by omega) (by omega) ?_
        try simp (disch := omega) only [e1, e2, e3, e4]
        refine g_goto 31 dX10_here_27 (by decide) ?_
        refine g_ireturn dX10_here_31 rfl (by first | rfl | exact nar_bI _) ?_
        exact h
  | inr f =>
    obtain ⟨hf, e3, _⟩ := hS
    simp only [hrV] at h
    refine Call_of (m := mM_here) [some (.ref 57)] rfl (fun G => Nat.le_of_ble_eq_true rfl) (fun G => rfl) ?_
    refine g_aload_n dX10_here_0 rfl ?_
    refine g_geti (j := 21) dX10_here_1 gc10 rfl (by decide) rfl (by decide) fl_M_248 ?_
    try simp (disch := omega) only [e3]
    refine g_if_ge_n 30 dX10_here_4 (by decide) (by omega) ?_
    refine g_iconst ((-1)) dX10_here_30 ki_m1 ?_
    refine g_ireturn dX10_here_31 rfl (by first | rfl | exact nar_bI _) ?_
    exact h
theorem SM_faults {d : Nat} {n : Nat} {t : Nat → Nat} {M : Mm} {Q : Po} {p : Nat} {x : Int32} {q : TS} (hT : TM n t M q) (hx : ∀ a, q = .inl a → x = nI p ∧ p ≤ n) (h : ∀ M', EqT M M' → TM n t M' (flS p q) → Q M' none) : Call (d + 1) mM_faults [.ref 57, .int x] M Q := by
  cases q with
  | inl a =>
    obtain ⟨e, hp⟩ := hx a rfl
    have e3 : M 57 21 = -1 := hT.2.2.2
    refine Call_of (m := mM_faults) [some (.ref 57), some (.int x)] rfl (fun G => Nat.le_of_ble_eq_true rfl) (fun G => rfl) ?_
    refine g_aload_n dX10_faults_0 rfl ?_
    refine g_aload_n dX10_faults_1 rfl ?_
    refine g_geti (j := 21) dX10_faults_2 gc10 rfl (by decide) rfl (by decide) fl_M_248 ?_
    try simp (disch := omega) only [e3]
    refine g_if_ge 12 dX10_faults_5 (by decide) (fun c5 => ?_) (fun c5 => ?_)
    · exact absurd c5 (by decide)
    · refine g_iload_n dX10_faults_8 rfl ?_
      refine g_goto 16 dX10_faults_9 (by decide) ?_
      refine g_puti (j := 21) dX10_faults_16 gc10 rfl (by decide) rfl (by decide) fl_M_248 rfl (tyX10_ok 21 (by decide)) (by first | rfl | exact nar_bI _) rfl ?_
      refine g_return dX10_faults_19 rfl ?_
      rw [e]
      exact h _ (EqT.set (by omega)) (hT.fl hp)
  | inr f =>
    have e3 : M 57 21 = nI f := hT.2.2.1
    have hf : f ≤ n := hT.2.1
    have hn := hT.1.1
    refine Call_of (m := mM_faults) [some (.ref 57), some (.int x)] rfl (fun G => Nat.le_of_ble_eq_true rfl) (fun G => rfl) ?_
    refine g_aload_n dX10_faults_0 rfl ?_
    refine g_aload_n dX10_faults_1 rfl ?_
    refine g_geti (j := 21) dX10_faults_2 gc10 rfl (by decide) rfl (by decide) fl_M_248 ?_
    try simp (disch := omega) only [e3]
    refine g_if_ge_n 12 dX10_faults_5 (by decide) (by omega) ?_
    refine g_aload_n dX10_faults_12 rfl ?_
    refine g_geti (j := 21) dX10_faults_13 gc10 rfl (by decide) rfl (by decide) fl_M_248 ?_
    try simp (disch := omega) only [e3]
    refine g_puti (j := 21) dX10_faults_16 gc10 rfl (by decide) rfl (by decide) fl_M_248 rfl (tyX10_ok 21 (by decide)) (by first | rfl | exact nar_bI _) rfl ?_
    refine g_return dX10_faults_19 rfl ?_
    refine h _ (EqT.set (by omega)) ⟨hT.1.eqT (EqT.set (by omega)), hf, ?_, ?_⟩
    · rw [mset_at]
    · rw [mset_off (by omega)]; exact hT.2.2.2
theorem SM_faultsA {d : Nat} {n : Nat} {t : Nat → Nat} {M : Mm} {Q : Po} {x : Int32} {q : TS} (hT : TM n t M q) (hx : x = M 57 20) (h : ∀ M', EqT M M' → TM n t M' (flA q) → Q M' none) : Call (d + 1) mM_faults [.ref 57, .int x] M Q := by
  cases q with
  | inl a => exact SM_faults (p := a) hT (fun b e => by cases e; exact ⟨hx.trans hT.2.2.1, hT.2.1⟩) h
  | inr f => exact SM_faults (p := 0) hT (fun b e => by cases e) h
theorem SM_opensTape {d : Nat} {n : Nat} {t : Nat → Nat} {M : Mm} {Q : Po} (hT : TPm n t M) (h : ∀ M', EqT M M' → TM n t M' (.inl 0) → Q M' none) : Call (d + 1) mM_opensTape [.ref 57] M Q := by
  refine Call_of (m := mM_opensTape) [some (.ref 57)] rfl (fun G => Nat.le_of_ble_eq_true rfl) (fun G => rfl) ?_
  refine g_aload_n dX10_opensTape_0 rfl ?_
  refine g_iconst (nI 0) dX10_opensTape_1 ki_0 ?_
  refine g_puti (j := 20) dX10_opensTape_2 gc10 rfl (by decide) rfl (by decide) fl_M_251 rfl (tyX10_ok 20 (by decide)) (by first | rfl | exact nar_bI _) rfl ?_
  refine g_aload_n dX10_opensTape_5 rfl ?_
  refine g_iconst ((-1)) dX10_opensTape_6 ki_m1 ?_
  refine g_puti (j := 21) dX10_opensTape_7 gc10 rfl (by decide) rfl (by decide) fl_M_248 rfl (tyX10_ok 21 (by decide)) (by first | rfl | exact nar_bI _) rfl ?_
  refine g_return dX10_opensTape_10 rfl ?_
  refine h _ ((EqT.set (by omega)).tr (EqT.set (by omega))) ⟨(hT.eqT (EqT.set (by omega))).eqT (EqT.set (by omega)), Nat.zero_le _, ?_, ?_⟩
  · rw [mset_off (by omega), mset_at]
  · rw [mset_at]
theorem SM_takes {d : Nat} {n : Nat} {t : Nat → Nat} {M : Mm} {Q : Po} {c : Nat} {q : TS} (hc : 1 ≤ c ∧ c < 200) (hT : TM n t M q) (h : ∀ M', EqT M M' → TM n t M' (tkS n t c q) → Q M' (some (.int (bI (tk n t c q))))) : Call (d + 2) mM_takes [.ref 57, .int (nI c)] M Q := by
  have ht := hT.1.2.1
  refine Call_of (m := mM_takes) [some (.ref 57), some (.int (nI c))] rfl (fun G => Nat.le_of_ble_eq_true rfl) (fun G => rfl) ?_
  refine g_aload_n dX10_takes_0 rfl ?_
  refine g_call0 dX10_takes_1 clM_here ml_M_254 gc10 rfl rfl (by decide) (Nat.le_of_ble_eq_true rfl) ?_
  refine SM_here hT ?_
  refine g_iload_n dX10_takes_4 rfl ?_
  refine g_icmp_eq 10 dX10_takes_5 (by decide) (fun c5 => ?_) (fun c5 => ?_)
  · rw [hrV_eq ht hc] at c5
    obtain ⟨a, e, e1, e2, e3⟩ := tkS_t c5 (by omega)
    rw [e1] at h
    subst e
    have e20 : M 57 20 = nI a := hT.2.2.1
    refine g_aload_n dX10_takes_10 rfl ?_
    refine g_dup dX10_takes_11 rfl ?_
    refine g_geti (j := 20) dX10_takes_12 gc10 rfl (by decide) rfl (by decide) fl_M_251 ?_
    try simp (disch := omega) only [e20]
    refine g_iconst (nI 1) dX10_takes_15 ki_1 ?_
    first | refine g_iadd_n dX10_takes_16 ?_ | refine g_iadd dX10_takes_16 ?_
    refine g_puti (j := 20) dX10_takes_17 gc10 rfl (by decide) rfl (by decide) fl_M_251 rfl (tyX10_ok 20 (by decide)) (by first | rfl | exact nar_bI _) rfl ?_
    refine g_iconst (nI 1) dX10_takes_20 ki_1 ?_
    refine g_ireturn dX10_takes_21 rfl (by first | rfl | exact nar_bI _) ?_
    exact qb_t (h _ (EqT.set (by omega)) (hT.set (by omega))) c5
  · rw [hrV_eq ht hc] at c5
    have c5 := Bool.eq_false_iff.mpr c5
    refine g_iconst (nI 0) dX10_takes_8 ki_0 ?_
    refine g_ireturn dX10_takes_9 rfl (by first | rfl | exact nar_bI _) ?_
    exact qb_f (h M EqT.rf (by rw [tkS_f c5]; exact hT)) c5
theorem SM_must {d : Nat} {n : Nat} {t : Nat → Nat} {M : Mm} {Q : Po} {c : Nat} {q : TS} (hc : 1 ≤ c ∧ c < 200) (hT : TM n t M q) (h : ∀ M', EqT M M' → TM n t M' (mu n t c q) → Q M' none) : Call (d + 3) mM_must [.ref 57, .int (nI c)] M Q := by
  refine Call_of (m := mM_must) [some (.ref 57), some (.int (nI c))] rfl (fun G => Nat.le_of_ble_eq_true rfl) (fun G => rfl) ?_
  refine g_aload_n dX10_must_0 rfl ?_
  refine g_iload_n dX10_must_1 rfl ?_
  refine g_call1 dX10_must_2 clM_takes ml_M_257 gc10 rfl rfl (by decide) (Nat.le_of_ble_eq_true rfl) ?_
  refine SM_takes hc hT (fun M1 hE1 hT1 => ?_)
  refine g_if_ne_b 16 dX10_must_5 (by decide) (fun c5 => ?_) (fun c5 => ?_)
  · refine g_return dX10_must_16 rfl ?_
    refine h M1 hE1 ?_
    cases q with
    | inl a =>
      have c5 : tb n t a = c := of_decide_eq_true c5
      simp only [tkS, mu] at hT1 ⊢
      rw [if_pos c5] at hT1 ⊢
      exact hT1
    | inr f => cases c5
  · refine g_aload_n dX10_must_8 rfl ?_
    refine g_aload_n dX10_must_9 rfl ?_
    refine g_geti (j := 20) dX10_must_10 gc10 rfl (by decide) rfl (by decide) fl_M_251 ?_
    refine g_call1 dX10_must_13 clM_faults ml_M_260 gc10 rfl rfl (by decide) (Nat.le_of_ble_eq_true rfl) ?_
    refine SM_faultsA hT1 rfl (fun M2 hE2 hT2 => ?_)
    refine g_return dX10_must_16 rfl ?_
    refine h M2 (hE1.tr hE2) ?_
    cases q with
    | inl a =>
      have c5 : ¬ tb n t a = c := of_decide_eq_false c5
      simp only [tkS, mu] at hT2 ⊢
      rw [if_neg c5] at hT2 ⊢
      exact hT2
    | inr f => exact hT2
theorem inJ_dg {n : Nat} {t : Nat → Nat} {a : Nat} (ht : ∀ i, i < n → 1 ≤ t i ∧ t i ≤ 127) : inJ (hrV n t (.inl a)).toInt64 48 57 = dgt (tb n t a) := by
  unfold inJ dgt
  rw [Int32.toInt_toInt64]
  have e1 : (48 : Int64).toInt = 48 := by decide
  have e2 : (57 : Int64).toInt = 57 := by decide
  rw [e1, e2]
  congr 1
  by_cases z : a < n
  · have := ht a z
    rw [hrV_tb z, show tb n t a = t a from if_pos z, nI_toInt (by omega)]
    exact propext ⟨fun q => by omega, fun q => by omega⟩
  · rw [show hrV n t (.inl a) = -1 from if_neg z, show tb n t a = 0 from if_neg z, show (-1 : Int32).toInt = -1 from by decide]
    exact propext ⟨fun q => by omega, fun q => by omega⟩
theorem SM_number {d : Nat} {n : Nat} {t : Nat → Nat} {M : Mm} {Q : Po} {lo hi : Nat} {x y : Int32} {q : TS} (hT : TM n t M q) (hxy : okB q = true → x = nI lo ∧ y = nI hi) (hlo : lo < 1000) (hhi : hi < 1000) (h : ∀ M' v, EqT M M' → TM n t M' (nuS n t lo hi q) → (okB q = true → v = nI (nuV n t q)) → Q M' (some (.int v))) : Call (d + 2) mM_number [.ref 57, .int x, .int y] M Q := by
  have ht := hT.1.2.1
  have hn := hT.1.1
  cases q with
  | inr f =>
    obtain ⟨a, ha, e2, _⟩ := hT.at
    refine Call_of (m := mM_number) [some (.ref 57), some (.int x), some (.int y), none] rfl (fun G => Nat.le_of_ble_eq_true rfl) (fun G => rfl) ?_
    refine g_aload_n dX10_number_0 rfl ?_
    refine g_aload_n dX10_number_1 rfl ?_
    refine g_geti (j := 20) dX10_number_2 gc10 rfl (by decide) rfl (by decide) fl_M_251 ?_
    try simp (disch := omega) only [e2]
    refine g_puti (j := 22) dX10_number_5 gc10 rfl (by decide) rfl (by decide) fl_M_263 rfl (tyX10_ok 22 (by decide)) (by first | rfl | exact nar_bI _) rfl ?_
    refine g_iconst (nI 0) dX10_number_8 ki_0 ?_
    refine g_ist4_3 dX10_number_9 (by decide) rfl ?_
    generalize hM0 : mset M 57 22 (nI a) = M0
    have hE0 : EqT M M0 := by rw [← hM0]; exact EqT.set (by omega)
    have hT0 : TM n t M0 (.inr f) := by rw [← hM0]; exact hT.off (mset_ne (by decide)) (fun j hj => mset_off (by omega))
    have e20 : M0 57 20 = nI a := by rw [← hM0, mset_off (by omega)]; exact e2
    have e22 : M0 57 22 = nI a := by rw [← hM0, mset_at]
    clear hM0
    refine g_aload_n dX10_number_10 rfl ?_
    refine g_call0 dX10_number_11 clM_here ml_M_254 gc10 rfl rfl (by decide) (Nat.le_of_ble_eq_true rfl) ?_
    refine SM_here hT0 ?_
    refine g_i2l dX10_number_14 ?_
    refine g_ldc2w (48) dX10_number_15 kl_M_266 ?_
    refine g_ldc2w (57) dX10_number_18 kl_M_268 ?_
    refine g_calls3 dX10_number_21 clM_in ml_M_68 (Nat.le_of_ble_eq_true rfl) ?_
    refine SM_in _ _ _ ?_
    rw [show inJ (hrV n t (.inr f)).toInt64 48 57 = false from by simp only [hrV]; decide]
    refine g_if_eq_ff 66 dX10_number_24 (by decide) ?_
    refine g_aload_n dX10_number_66 rfl ?_
    refine g_geti (j := 20) dX10_number_67 gc10 rfl (by decide) rfl (by decide) fl_M_251 ?_
    try simp (disch := omega) only [e20, e22]
    refine g_aload_n dX10_number_70 rfl ?_
    refine g_geti (j := 22) dX10_number_71 gc10 rfl (by decide) rfl (by decide) fl_M_263 ?_
    try simp (disch := omega) only [e20, e22]
    refine g_icmp_eq_n 89 dX10_number_74 (by decide) (by omega) (by omega) (fun c74 => ?_) (fun c74 => ?_)
    · refine g_aload_n dX10_number_89 rfl ?_
      refine g_aload_n dX10_number_90 rfl ?_
      refine g_geti (j := 22) dX10_number_91 gc10 rfl (by decide) rfl (by decide) fl_M_263 ?_
      try simp (disch := omega) only [e20, e22]
      refine g_call1 dX10_number_94 clM_faults ml_M_260 gc10 rfl rfl (by decide) (Nat.le_of_ble_eq_true rfl) ?_
      refine SM_faults (p := 0) hT0 (fun b e => by cases e) (fun M1 hE1 hT1 => ?_)
      refine g_iload_n dX10_number_97 rfl ?_
      refine g_ireturn dX10_number_98 rfl (by first | rfl | exact nar_bI _) ?_
      exact h M1 (nI 0) (hE0.tr hE1) hT1 (fun z => by cases z)
    · exact absurd rfl c74
  | inl a =>
    obtain ⟨ex, ey⟩ := hxy rfl
    subst ex
    subst ey
    have ha : a ≤ n := hT.2.1
    have e2 : M 57 20 = nI a := hT.2.2.1
    have hend : ∀ (i v : Nat) (M2 : Mm), a + i ≤ n → v < 1000 → EqT M M2 → TM n t M2 (.inl (a + i)) → M2 57 22 = nI a → nuG n t 3 a 0 = (a + i, v) → Go mM_number (d + 2) Q 66 [some (.ref 57), some (.int (nI lo)), some (.int (nI hi)), some (.int (nI v))] [] M2 := by
      intro i v M2 hai hv hE2 hT2 h22 hg
      have h20 : M2 57 20 = nI (a + i) := hT2.2.2.1
      have hS : nuS n t lo hi (.inl a) = if a + i = a ∨ ¬ (lo ≤ v ∧ v ≤ hi) then .inr a else .inl (a + i) := by
        simp only [nuS]
        rw [hg]
      have hV : nuV n t (.inl a) = v := by
        simp only [nuV]
        rw [hg]
      have hbad : nuS n t lo hi (.inl a) = .inr a → Go mM_number (d + 2) Q 89 [some (.ref 57), some (.int (nI lo)), some (.int (nI hi)), some (.int (nI v))] [] M2 := by
        intro e
        refine g_aload_n dX10_number_89 rfl ?_
        refine g_aload_n dX10_number_90 rfl ?_
        refine g_geti (j := 22) dX10_number_91 gc10 rfl (by decide) rfl (by decide) fl_M_263 ?_
        try simp (disch := omega) only [h22]
        refine g_call1 dX10_number_94 clM_faults ml_M_260 gc10 rfl rfl (by decide) (Nat.le_of_ble_eq_true rfl) ?_
        refine SM_faults (p := a) hT2 (fun b _ => ⟨rfl, ha⟩) (fun M3 hE3 hT3 => ?_)
        refine g_iload_n dX10_number_97 rfl ?_
        refine g_ireturn dX10_number_98 rfl (by first | rfl | exact nar_bI _) ?_
        exact h M3 _ (hE2.tr hE3) (by rw [e]; exact hT3) (fun _ => by rw [hV])
      refine g_aload_n dX10_number_66 rfl ?_
      refine g_geti (j := 20) dX10_number_67 gc10 rfl (by decide) rfl (by decide) fl_M_251 ?_
      try simp (disch := omega) only [h20, h22]
      refine g_aload_n dX10_number_70 rfl ?_
      refine g_geti (j := 22) dX10_number_71 gc10 rfl (by decide) rfl (by decide) fl_M_263 ?_
      try simp (disch := omega) only [h20, h22]
      refine g_icmp_eq_n 89 dX10_number_74 (by decide) (by omega) (by omega) (fun c74 => ?_) (fun c74 => ?_)
      · exact hbad (by rw [hS, if_pos (Or.inl c74)])
      · refine g_iload_n dX10_number_77 rfl ?_
        refine g_i2l dX10_number_78 ?_
        refine g_iload_n dX10_number_79 rfl ?_
        refine g_i2l dX10_number_80 ?_
        refine g_iload_n dX10_number_81 rfl ?_
        refine g_i2l dX10_number_82 ?_
        refine g_calls3 dX10_number_83 clM_in ml_M_68 (Nat.le_of_ble_eq_true rfl) ?_
        refine SM_in _ _ _ ?_
        rw [inJ_N (by omega) (by omega) (by omega)]
        refine g_if_ne_b 97 dX10_number_86 (by decide) (fun c86 => ?_) (fun c86 => ?_)
        · have c86 := of_decide_eq_true c86
          refine g_iload_n dX10_number_97 rfl ?_
          refine g_ireturn dX10_number_98 rfl (by first | rfl | exact nar_bI _) ?_
          exact h M2 _ hE2 (by rw [hS, if_neg (by omega)]; exact hT2) (fun _ => by rw [hV])
        · have c86 := of_decide_eq_false c86
          exact hbad (by rw [hS, if_pos (Or.inr c86)])
    refine Call_of (m := mM_number) [some (.ref 57), some (.int (nI lo)), some (.int (nI hi)), none] rfl (fun G => Nat.le_of_ble_eq_true rfl) (fun G => rfl) ?_
    refine g_aload_n dX10_number_0 rfl ?_
    refine g_aload_n dX10_number_1 rfl ?_
    refine g_geti (j := 20) dX10_number_2 gc10 rfl (by decide) rfl (by decide) fl_M_251 ?_
    try simp (disch := omega) only [e2]
    refine g_puti (j := 22) dX10_number_5 gc10 rfl (by decide) rfl (by decide) fl_M_263 rfl (tyX10_ok 22 (by decide)) (by first | rfl | exact nar_bI _) rfl ?_
    refine g_iconst (nI 0) dX10_number_8 ki_0 ?_
    refine g_ist4_3 dX10_number_9 (by decide) rfl ?_
    suffices hloop : ∀ k i v M', i + k = 3 → a + i ≤ n → v < 10 ^ i → EqT M M' → TM n t M' (.inl (a + i)) → M' 57 22 = nI a → nuG n t 3 a 0 = nuG n t k (a + i) v → Go mM_number (d + 2) Q 10 [some (.ref 57), some (.int (nI lo)), some (.int (nI hi)), some (.int (nI v))] [] M' by
      exact hloop 3 0 0 _ rfl ha (by decide) (EqT.set (by omega)) (hT.off (mset_ne (by decide)) (fun j hj => mset_off (by omega))) (mset_at _ _ _ _) rfl
    intro k
    induction k with
    | zero =>
      intro i v M' hik hai hv hE hT2 h22 hg
      have h1000 : v < 1000 := by
        rw [show i = 3 by omega] at hv
        exact hv
      have h20 : M' 57 20 = nI (a + i) := hT2.2.2.1
      refine g_aload_n dX10_number_10 rfl ?_
      refine g_call0 dX10_number_11 clM_here ml_M_254 gc10 rfl rfl (by decide) (Nat.le_of_ble_eq_true rfl) ?_
      refine SM_here hT2 ?_
      refine g_i2l dX10_number_14 ?_
      refine g_ldc2w (48) dX10_number_15 kl_M_266 ?_
      refine g_ldc2w (57) dX10_number_18 kl_M_268 ?_
      refine g_calls3 dX10_number_21 clM_in ml_M_68 (Nat.le_of_ble_eq_true rfl) ?_
      refine SM_in _ _ _ ?_
      rw [inJ_dg ht]
      refine g_if_eq_b 66 dX10_number_24 (by decide) (fun c24 => ?_) (fun c24 => ?_)
      · exact hend i v M' hai h1000 hE hT2 h22 hg
      · refine g_aload_n dX10_number_27 rfl ?_
        refine g_geti (j := 20) dX10_number_28 gc10 rfl (by decide) rfl (by decide) fl_M_251 ?_
        try simp (disch := omega) only [h20, h22]
        refine g_aload_n dX10_number_31 rfl ?_
        refine g_geti (j := 22) dX10_number_32 gc10 rfl (by decide) rfl (by decide) fl_M_263 ?_
        try simp (disch := omega) only [h20, h22]
        first | refine g_isub_n dX10_number_35 (by omega) ?_ | refine g_isub dX10_number_35 ?_
        refine g_iconst (nI 3) dX10_number_36 ki_3 ?_
        refine g_icmp_ge_n 66 dX10_number_37 (by decide) (by omega) (by omega) (fun c37 => ?_) (fun c37 => ?_)
        · exact hend i v M' hai h1000 hE hT2 h22 hg
        · exact absurd hik (by omega)
    | succ k ih =>
      intro i v M' hik hai hv hE hT2 h22 hg
      have hb := hT2.1.tb_le (a + i)
      have hp : 10 ^ i ≤ 10 ^ 3 := Nat.pow_le_pow_right (by decide) (by omega)
      have h1000 : v < 1000 := Nat.lt_of_lt_of_le hv hp
      have h20 : M' 57 20 = nI (a + i) := hT2.2.2.1
      refine g_aload_n dX10_number_10 rfl ?_
      refine g_call0 dX10_number_11 clM_here ml_M_254 gc10 rfl rfl (by decide) (Nat.le_of_ble_eq_true rfl) ?_
      refine SM_here hT2 ?_
      refine g_i2l dX10_number_14 ?_
      refine g_ldc2w (48) dX10_number_15 kl_M_266 ?_
      refine g_ldc2w (57) dX10_number_18 kl_M_268 ?_
      refine g_calls3 dX10_number_21 clM_in ml_M_68 (Nat.le_of_ble_eq_true rfl) ?_
      refine SM_in _ _ _ ?_
      rw [inJ_dg ht]
      refine g_if_eq_b 66 dX10_number_24 (by decide) (fun c24 => ?_) (fun c24 => ?_)
      · have hg := hg.trans (show nuG n t (k + 1) (a + i) v = (a + i, v) by rw [nuG, if_neg (by rw [c24]; decide)])
        exact hend i v M' hai h1000 hE hT2 h22 hg
      · have hg := hg.trans (show nuG n t (k + 1) (a + i) v = nuG n t k (a + i + 1) (v * 10 + (tb n t (a + i) - 48)) by rw [nuG, if_pos c24])
        have hd : 48 ≤ tb n t (a + i) ∧ tb n t (a + i) ≤ 57 := of_decide_eq_true c24
        have hlt := tb_lt (n := n) (t := t) (i := a + i) rfl (by omega)
        refine g_aload_n dX10_number_27 rfl ?_
        refine g_geti (j := 20) dX10_number_28 gc10 rfl (by decide) rfl (by decide) fl_M_251 ?_
        try simp (disch := omega) only [h20, h22]
        refine g_aload_n dX10_number_31 rfl ?_
        refine g_geti (j := 22) dX10_number_32 gc10 rfl (by decide) rfl (by decide) fl_M_263 ?_
        try simp (disch := omega) only [h20, h22]
        first | refine g_isub_n dX10_number_35 (by omega) ?_ | refine g_isub dX10_number_35 ?_
        refine g_iconst (nI 3) dX10_number_36 ki_3 ?_
        refine g_icmp_ge_n 66 dX10_number_37 (by decide) (by omega) (by omega) (fun c37 => ?_) (fun c37 => ?_)
        · exact absurd hik (by omega)
        · refine g_bipush (nI 10) dX10_number_40 kb_10 ?_
          refine g_iload_n dX10_number_42 rfl ?_
          first | refine g_imul_n dX10_number_43 ?_ | refine g_imul dX10_number_43 ?_
          refine g_aload_n dX10_number_44 rfl ?_
          refine g_call0 dX10_number_45 clM_here ml_M_254 gc10 rfl rfl (by decide) (Nat.le_of_ble_eq_true rfl) ?_
          refine SM_here hT2 ?_
          rw [hrV_tb hlt]
          first | refine g_iadd_n dX10_number_48 ?_ | refine g_iadd dX10_number_48 ?_
          refine g_bipush (nI 48) dX10_number_49 kb_48 ?_
          first | refine g_isub_n dX10_number_51 (by omega) ?_ | refine g_isub dX10_number_51 ?_
          refine g_ist4_3 dX10_number_52 (by decide) rfl ?_
          refine g_aload_n dX10_number_53 rfl ?_
          refine g_dup dX10_number_54 rfl ?_
          refine g_geti (j := 20) dX10_number_55 gc10 rfl (by decide) rfl (by decide) fl_M_251 ?_
          try simp (disch := omega) only [h20, h22]
          refine g_iconst (nI 1) dX10_number_58 ki_1 ?_
          first | refine g_iadd_n dX10_number_59 ?_ | refine g_iadd dX10_number_59 ?_
          refine g_puti (j := 20) dX10_number_60 gc10 rfl (by decide) rfl (by decide) fl_M_251 rfl (tyX10_ok 20 (by decide)) (by first | rfl | exact nar_bI _) rfl ?_
          refine g_goto 10 dX10_number_63 (by decide) ?_
          refine ih (i + 1) _ _ (by omega) (by omega) ?_ (hE.tr (EqT.set (by omega))) (hT2.set (by omega)) ?_ ?_
          · rw [Nat.pow_succ]; omega
          · rw [mset_off (by omega)]; exact h22
          · rw [hg, show 10 * v + tb n t (a + i) - 48 = v * 10 + (tb n t (a + i) - 48) by omega]
            rfl
theorem SM_kindLetter {d : Nat} {n : Nat} {t : Nat → Nat} {M : Mm} {Q : Po} {q : TS} (hT : TM n t M q) (hC : MC M) (h : ∀ M', EqT M M' → TM n t M' (kdS n t q) → Q M' (some (.int (if kdV n t q = 4 then nI 0 else nI (kdV n t q))))) : Call (d + 3) mM_kindLetter [.ref 57] M Q := by
  refine Call_of (m := mM_kindLetter) [some (.ref 57), none] rfl (fun G => Nat.le_of_ble_eq_true rfl) (fun G => rfl) ?_
  refine g_iconst (nI 0) dX10_kindLetter_0 ki_0 ?_
  refine g_ist2_1 dX10_kindLetter_1 (by decide) rfl ?_
  refine loop_up (P := fun i => ∀ M', EqT M M' → TM n t M' q → (∀ k, k < i → tk n t (lw k) q = false) → Go mM_kindLetter (d + 3) Q 2 [some (.ref 57), some (.int (nI i))] [] M') 4 ?_ 0 (Nat.zero_le _) M EqT.rf hT (fun k hk => absurd hk (by omega))
  intro i hi ih M' hE hT2 hm
  refine g_iload_n dX10_kindLetter_2 rfl ?_
  refine g_iconst (nI 4) dX10_kindLetter_3 ki_4 ?_
  refine g_icmp_ge_n 28 dX10_kindLetter_4 (by decide) (by omega) (by omega) (fun c4 => ?_) (fun c4 => ?_)
  · obtain ⟨r1, r2⟩ := kd_miss (n := n) (t := t) (q := q) (fun k hk => hm k (by omega))
    refine g_aload_n dX10_kindLetter_28 rfl ?_
    refine g_aload_n dX10_kindLetter_29 rfl ?_
    refine g_geti (j := 20) dX10_kindLetter_30 gc10 rfl (by decide) rfl (by decide) fl_M_251 ?_
    refine g_call1 dX10_kindLetter_33 clM_faults ml_M_260 gc10 rfl rfl (by decide) (Nat.le_of_ble_eq_true rfl) ?_
    refine SM_faultsA hT2 rfl (fun M3 hE3 hT3 => ?_)
    refine g_iconst (nI 0) dX10_kindLetter_36 ki_0 ?_
    refine g_ireturn dX10_kindLetter_37 rfl (by first | rfl | exact nar_bI _) ?_
    have h := h M3 (hE.tr hE3) (by rw [r1]; exact hT3)
    rw [r2, if_pos rfl] at h
    exact h
  · have e60 : M' 60 i = nI (lw i) := by rw [hE 60 i (by omega)]; exact hC.1 i (by omega)
    refine g_aload_n dX10_kindLetter_7 rfl ?_
    refine g_aload_n dX10_kindLetter_8 rfl ?_
    refine g_getr (j := 3) dX10_kindLetter_9 gc10 rfl (by decide) rfl (by decide) fl_M_16 ?_
    refine g_iload_n dX10_kindLetter_12 rfl ?_
    refine g_iald_n dX10_kindLetter_13 (by first | rfl | assumption) (by first | decide | assumption) (by omega) (by omega) ?_
    try simp (disch := omega) only [e60]
    refine g_call1 dX10_kindLetter_14 clM_takes ml_M_257 gc10 rfl rfl (by decide) (Nat.le_of_ble_eq_true rfl) ?_
    refine SM_takes (lw_ge (by omega)) hT2 (fun M3 hE3 hT3 => ?_)
    refine g_if_eq_b 22 dX10_kindLetter_17 (by decide) (fun c17 => ?_) (fun c17 => ?_)
    · rw [tkS_f c17] at hT3
      first | refine g_incn2_1 dX10_kindLetter_22 ki_1 (by decide) rfl ?_ | refine g_incg2_1 (nI 1) dX10_kindLetter_22 ki_1 (by decide) rfl ?_
      refine g_goto 2 dX10_kindLetter_25 (by decide) ?_
      refine ih (by omega) M3 (hE.tr hE3) hT3 (fun k hk => ?_)
      by_cases e : k = i
      · rw [e]; exact c17
      · exact hm k (by omega)
    · obtain ⟨r1, r2⟩ := kd_hit (by omega) c17
      refine g_iload_n dX10_kindLetter_20 rfl ?_
      refine g_ireturn dX10_kindLetter_21 rfl (by first | rfl | exact nar_bI _) ?_
      have h := h M3 (hE.tr hE3) (by rw [r1]; exact hT3)
      rw [r2, if_neg (by omega)] at h
      exact h
def clV (w : Int32) : TS → Int32
  | .inl _ => w
  | .inr f => -100 - nI f
theorem SM_closes {d : Nat} {n : Nat} {t : Nat → Nat} {M : Mm} {Q : Po} {q : TS} (w : Int32) (hT : TM n t M q) (h : ∀ M', (∀ k j, ¬ (k = 57 ∧ (j = 19 ∨ j = 20 ∨ j = 21 ∨ j = 22)) → M' k j = M k j) → M' 57 19 = nI 0 → Q M' (some (.int (clV w (enS n q))))) : Call (d + 2) mM_closes [.ref 57, .int w] M Q := by
  obtain ⟨a, ha, e2, ea⟩ := hT.at
  have hn := hT.1.1
  have e19 : M 57 19 = nI n := hT.1.2.2.1
  have hend : ∀ M2, EqT M M2 → TM n t M2 (enS n q) → Go mM_closes (d + 2) Q 19 [some (.ref 57), some (.int w)] [] M2 := by
    intro M2 hE2 hT2
    have h := h (mset M2 57 19 (nI 0)) (fun k j hk => by rw [mset_off (by omega), hE2 k j (by omega)]) (mset_at _ _ _ _)
    generalize enS n q = r at hT2 h
    cases r with
    | inl b =>
      have e21 : mset M2 57 19 (nI 0) 57 21 = -1 := by rw [mset_off (by omega)]; exact hT2.2.2.2
      refine g_aload_n dX10_closes_19 rfl ?_
      refine g_iconst (nI 0) dX10_closes_20 ki_0 ?_
      refine g_puti (j := 19) dX10_closes_21 gc10 rfl (by decide) rfl (by decide) fl_M_245 rfl (tyX10_ok 19 (by decide)) (by first | rfl | exact nar_bI _) rfl ?_
      refine g_aload_n dX10_closes_24 rfl ?_
      refine g_geti (j := 21) dX10_closes_25 gc10 rfl (by decide) rfl (by decide) fl_M_248 ?_
      try simp (disch := omega) only [e21]
      refine g_if_lt 41 dX10_closes_28 (by decide) (fun c28 => ?_) (fun c28 => ?_)
      · refine g_iload_n dX10_closes_41 rfl ?_
        refine g_ireturn dX10_closes_42 rfl (by first | rfl | exact nar_bI _) ?_
        exact h
      · exact absurd c28 (by decide)
    | inr f =>
      have e21 : mset M2 57 19 (nI 0) 57 21 = nI f := by rw [mset_off (by omega)]; exact hT2.2.2.1
      have hf : f ≤ n := hT2.2.1
      refine g_aload_n dX10_closes_19 rfl ?_
      refine g_iconst (nI 0) dX10_closes_20 ki_0 ?_
      refine g_puti (j := 19) dX10_closes_21 gc10 rfl (by decide) rfl (by decide) fl_M_245 rfl (tyX10_ok 19 (by decide)) (by first | rfl | exact nar_bI _) rfl ?_
      refine g_aload_n dX10_closes_24 rfl ?_
      refine g_geti (j := 21) dX10_closes_25 gc10 rfl (by decide) rfl (by decide) fl_M_248 ?_
      try simp (disch := omega) only [e21]
      refine g_if_lt_n 41 dX10_closes_28 (by decide) (by omega) ?_
      refine g_bipush ((-100)) dX10_closes_31 kb_m100 ?_
      refine g_aload_n dX10_closes_33 rfl ?_
      refine g_geti (j := 21) dX10_closes_34 gc10 rfl (by decide) rfl (by decide) fl_M_248 ?_
      try simp (disch := omega) only [e21]
      first | refine g_isub_n dX10_closes_37 (by omega) ?_ | refine g_isub dX10_closes_37 ?_
      refine g_goto 42 dX10_closes_38 (by decide) ?_
      refine g_ireturn dX10_closes_42 rfl (by first | rfl | exact nar_bI _) ?_
      exact h
  refine Call_of (m := mM_closes) [some (.ref 57), some (.int w)] rfl (fun G => Nat.le_of_ble_eq_true rfl) (fun G => rfl) ?_
  refine g_aload_n dX10_closes_0 rfl ?_
  refine g_geti (j := 20) dX10_closes_1 gc10 rfl (by decide) rfl (by decide) fl_M_251 ?_
  try simp (disch := omega) only [e2, e19]
  refine g_aload_n dX10_closes_4 rfl ?_
  refine g_geti (j := 19) dX10_closes_5 gc10 rfl (by decide) rfl (by decide) fl_M_245 ?_
  try simp (disch := omega) only [e2, e19]
  refine g_icmp_ge_n 19 dX10_closes_8 (by decide) (by omega) (by omega) (fun c8 => ?_) (fun c8 => ?_)
  · refine hend M EqT.rf ?_
    cases q with
    | inl b =>
      obtain rfl := ea b rfl
      simp only [enS]
      rw [if_neg (by omega)]
      exact hT
    | inr f => exact hT
  · refine g_aload_n dX10_closes_11 rfl ?_
    refine g_aload_n dX10_closes_12 rfl ?_
    refine g_geti (j := 20) dX10_closes_13 gc10 rfl (by decide) rfl (by decide) fl_M_251 ?_
    try simp (disch := omega) only [e2, e19]
    refine g_call1 dX10_closes_16 clM_faults ml_M_260 gc10 rfl rfl (by decide) (Nat.le_of_ble_eq_true rfl) ?_
    refine SM_faultsA hT e2.symm (fun M3 hE3 hT3 => ?_)
    refine hend M3 hE3 ?_
    cases q with
    | inl b =>
      obtain rfl := ea b rfl
      simp only [enS]
      rw [if_pos (by omega)]
      exact hT3
    | inr f => exact hT3
/-! texts: what they share; RULES, pure -/
def FxC (M M' : Mm) : Prop := ∀ k j, ((okO k j ∧ ¬ (k = 41 ∧ j = 1)) ∨ 57 ≤ k) → M' k j = M k j
def FxM (M M' : Mm) : Prop := ∀ k j, ((okO k j ∧ ¬ (k = 57 ∧ j = 19)) ∨ k < 57) → M' k j = M k j
theorem FxC.tr {M M1 M2 : Mm} (h1 : FxC M M1) (h2 : FxC M1 M2) : FxC M M2 := fun k j hk => (h2 k j hk).trans (h1 k j hk)
theorem FxM.tr {M M1 M2 : Mm} (h1 : FxM M M1) (h2 : FxM M1 M2) : FxM M M2 := fun k j hk => (h2 k j hk).trans (h1 k j hk)
theorem FxC.rf {M : Mm} : FxC M M := fun _ _ _ => rfl
theorem FxM.rf {M : Mm} : FxM M M := fun _ _ _ => rfl
theorem FxC.ofO {L : List Nat} {M M' : Mm} (h : EqO L M M') (hL : ∀ k ∈ L, k = 41 ∨ k ∈ LC) (h2 : ∀ j, j ≠ 1 → okO 41 j → M' 41 j = M 41 j) : FxC M M' := fun k j hk => by
  by_cases e : k ∈ L
  · rcases hL k e with z | z
    · subst z
      exact h2 j (by omega) (by rcases hk with q | q; exact q.1; omega)
    · have := LC_in z
      unfold okO at hk
      omega
  · rw [h k e]
theorem okO_41 {j : Nat} (hj : j ≠ 1) : ¬ okO 41 j := by unfold okO; omega
theorem FxC.of {L : List Nat} {M M' : Mm} (h : EqO L M M') (hL : ∀ k ∈ L, k = 41 ∨ k ∈ LC) : FxC M M' := FxC.ofO h hL (fun j hj ho => absurd ho (okO_41 hj))
theorem FxM.ofQ {L : List Nat} {M M' : Mm} (h : EqQ L M M') (hL : ∀ k ∈ L, k ∈ LM) : FxM M M' := fun k j hk => (FrM.ofQ h hL) k j (by rcases hk with q | q; exact Or.inl q.1; exact Or.inr q)
theorem FxC.fr {M M' : Mm} (h : FrC M M') : FxC M M' := fun k j hk => h k j (by rcases hk with q | q; exact Or.inl q.1; exact Or.inr q)
theorem FxM.fr {M M' : Mm} (h : FrM M M') : FxM M M' := fun k j hk => h k j (by rcases hk with q | q; exact Or.inl q.1; exact Or.inr q)
/-- calls that read the tape -/
theorem both_text {yF yM : Me} {args : List Value} (f : BS → Nat → (Nat → Nat) → Int32 × BS × Bool) (hc : ∀ (M : Mm) (S : BS) (n : Nat) (t : Nat → Nat) (Q : Po), BK M S → HM S → TPc n t M → (∀ M', FxC M M' → BK M' (f S n t).2.1 → M' 41 1 = (if (f S n t).2.2 = true then nI n else nI 0) → Q M' (some (.int (f S n t).1))) → Call 60 yF (.ref 0 :: args) M Q)
    (hm : ∀ (M : Mm) (S : BS) (n : Nat) (t : Nat → Nat) (Q : Po), MK (M 58) S → MC M → HM S → TPm n t M → (∀ M', FxM M M' → MK (M' 58) (f S n t).2.1 → M' 57 19 = (if (f S n t).2.2 = true then nI n else nI 0) → Q M' (some (.int (f S n t).1))) → Call 60 yM (.ref 57 :: args) M Q)
    (hH : ∀ S n t, n ≤ 150 → (∀ i, i < n → 1 ≤ t i ∧ t i ≤ 127) → WF S → HM S → HM (f S n t).2.1) : Both yF yM args := by
  intro M ⟨S, b, S', n, t, pn, pf, h1, h2, h3, h4⟩
  have e1 : M 41 1 = nI n := h4.2.2.2.2.1.2.2.1
  have e2 : M 57 19 = nI n := h4.2.2.2.2.2.1.2.2.1
  have hn : n ≤ 150 := h4.2.1
  have ht := h4.2.2.1
  have a4 : ∀ i, i < n → M 42 i = nI (t i) := h4.2.2.2.2.1.2.2.2.1
  have b4 : ∀ i, i < n → M 69 i = nI (t i) := h4.2.2.2.2.2.1.2.2.2.1
  refine hc M S n t _ h2 h1 ⟨hn, ht, e1, a4⟩ (fun M1 hf1 hB1 hn1 => ?_)
  have k58 : M1 58 = M 58 := funext (fun j => hf1 58 j (Or.inr (by omega)))
  have k57 : M1 57 = M 57 := funext (fun j => hf1 57 j (Or.inr (by omega)))
  have k69 : M1 69 = M 69 := funext (fun j => hf1 69 j (Or.inr (by omega)))
  have hC1 : MC M1 := ⟨fun j hj => by rw [hf1 60 j (Or.inr (by omega))]; exact h4.2.2.2.2.2.2.2.2.1 j hj, fun j hj => by rw [hf1 61 j (Or.inr (by omega))]; exact h4.2.2.2.2.2.2.2.2.2 j hj⟩
  refine ⟨IsI.rf, ?_⟩
  refine hm M1 S n t _ (by rw [k58]; exact h3) hC1 h1 ⟨hn, ht, by rw [k57]; exact e2, fun i hi => by rw [k69]; exact b4 i hi⟩ (fun M2 hf2 hM2 hn2 => ?_)
  have hB2 : BK M2 (f S n t).2.1 := hB1.keep (fun k j hr => hf2 k j (Or.inr (by unfold relB at hr; omega)))
  have m41 : M2 41 1 = M1 41 1 := hf2 41 1 (Or.inr (by omega))
  have hkk : ∀ k j, okO k j → ¬ (k = 41 ∧ j = 1) → ¬ (k = 57 ∧ j = 19) → M2 k j = M k j := fun k j ho n1 n2 => by rw [hf2 k j (Or.inl ⟨ho, n2⟩), hf1 k j (Or.inl ⟨ho, n1⟩)]
  have m42 : ∀ i, M2 42 i = M 42 i := fun i => hkk 42 i (by unfold okO; omega) (by omega) (by omega)
  have m69 : ∀ i, M2 69 i = M 69 i := fun i => hkk 69 i (by unfold okO; omega) (by omega) (by omega)
  have hfin : ∀ n2 : Nat, n2 ≤ n → M2 41 1 = nI n2 → M2 57 19 = nI n2 → OT M2 b S' n2 t pn pf := fun n2 hn2 x1 x2 =>
    h4.tape (by omega) (fun i hi => ht i (by omega)) (fun k j ho n1 n2 n3 n4 => hkk k j ho (fun z => n1 z.1) (fun z => n3 z)) x1 (fun i hi => by rw [m42]; exact a4 i (by omega)) x2 (fun i hi => by rw [m69]; exact b4 i (by omega))
  refine ⟨TyI.rf, (f S n t).2.1, b, S', if (f S n t).2.2 = true then n else 0, t, pn, pf, hH S n t hn ht h2.wf h1, hB2, hM2, ?_⟩
  cases hb : (f S n t).2.2 with
  | true =>
    rw [hb, if_pos rfl] at hn1 hn2
    rw [if_pos rfl]
    exact hfin n (Nat.le_refl _) (m41.trans hn1) hn2
  | false =>
    rw [hb, if_neg (by decide)] at hn1 hn2
    rw [if_neg (by decide)]
    exact hfin 0 (Nat.zero_le _) (m41.trans hn1) hn2
/-! what is right so far -/
theorem ok_mu {n : Nat} {t : Nat → Nat} {c : Nat} {q : TS} (h : okB (mu n t c q) = true) : okB q = true := by cases q with
  | inl a => rfl
  | inr f => cases h
theorem nuG_lt (n : Nat) (t : Nat → Nat) : ∀ (k a v : Nat), (nuG n t k a v).2 < (v + 1) * 10 ^ k
  | 0, a, v => by simp [nuG]
  | k + 1, a, v => by
    rw [nuG]
    split
    · rename_i h
      have hd : 48 ≤ tb n t a ∧ tb n t a ≤ 57 := of_decide_eq_true h
      refine Nat.lt_of_lt_of_le (nuG_lt n t k _ _) ?_
      rw [Nat.pow_succ, Nat.mul_comm (10 ^ k) 10, ← Nat.mul_assoc]
      exact Nat.mul_le_mul_right _ (by omega)
    · show v < (v + 1) * 10 ^ (k + 1)
      have : 0 < 10 ^ (k + 1) := Nat.pow_pos (by decide)
      exact Nat.lt_of_lt_of_le (Nat.lt_succ_self v) (Nat.le_mul_of_pos_right _ this)
theorem nuV_lt (n : Nat) (t : Nat → Nat) (q : TS) : nuV n t q < 1000 := by
  cases q with
  | inl a => exact nuG_lt n t 3 a 0
  | inr f => simp only [nuV]; omega
theorem ok_nu {n : Nat} {t : Nat → Nat} {lo hi : Nat} {q : TS} (h : okB (nuS n t lo hi q) = true) : okB q = true ∧ lo ≤ nuV n t q ∧ nuV n t q ≤ hi := by
  cases q with
  | inl a =>
    simp only [nuS] at h
    split at h
    · cases h
    · rename_i z
      refine ⟨rfl, ?_⟩
      simp only [nuV]
      omega
  | inr f => cases h
theorem ok_kd {n : Nat} {t : Nat → Nat} {q : TS} (h : okB (kdS n t q) = true) : okB q = true ∧ kdV n t q < 4 := by
  cases q with
  | inl a =>
    simp only [kdS] at h
    split at h
    · rename_i z; exact ⟨rfl, z⟩
    · cases h
  | inr f => cases h
theorem ok_tk {n : Nat} {t : Nat → Nat} {c : Nat} {q : TS} : okB (tkS n t c q) = okB q := by
  cases q with
  | inl a =>
    simp only [tkS]
    split <;> rfl
  | inr f => rfl
theorem tk_ok {n : Nat} {t : Nat → Nat} {c : Nat} {q : TS} (h : tk n t c q = true) : okB q = true := by
  cases q with
  | inl a => rfl
  | inr f => cases h
theorem ok_en {n : Nat} {q : TS} (h : okB (enS n q) = true) : okB q = true ∧ enS n q = q := by
  cases q with
  | inl a =>
    simp only [enS] at h ⊢
    split at h
    · cases h
    · rename_i z; rw [if_neg z]; exact ⟨rfl, rfl⟩
  | inr f => cases h
theorem ok_fl {q : TS} : okB (flA q) = false := by cases q <;> rfl
theorem en_fl {n : Nat} {q : TS} : enS n (flA q) = flA q := by cases q <;> rfl
theorem tk_fl {n : Nat} {t : Nat → Nat} {c : Nat} {q : TS} : tk n t c (flA q) = false := by cases q <;> rfl
theorem tk_no {n : Nat} {t : Nat → Nat} {c : Nat} {q : TS} (h : okB q = false) : tk n t c q = false := by
  cases q with
  | inl a => cases h
  | inr f => rfl
theorem en_no {n : Nat} {q : TS} (h : okB q = false) : enS n q = q := by
  cases q with
  | inl a => cases h
  | inr f => rfl
abbrev RU : Type := Nat × Nat × Nat
def ruP (n : Nat) (t : Nat → Nat) (q : TS) : TS × RU :=
  if tk n t 100 q = true then (nuS n t (nuV n t (tkS n t 100 q)) 365 (mu n t 45 (nuS n t 0 365 (tkS n t 100 q))), (0, nuV n t (tkS n t 100 q), nuV n t (mu n t 45 (nuS n t 0 365 (tkS n t 100 q)))))
  else if tk n t 107 q = true then (kdS n t (tkS n t 107 q), (1, kdV n t (tkS n t 107 q), 0))
  else (nuS n t 0 (nuV n t (mu n t 114 q) - 1) (mu n t 58 (nuS n t 2 9 (mu n t 114 q))), (2, nuV n t (mu n t 114 q), nuV n t (mu n t 58 (nuS n t 2 9 (mu n t 114 q)))))
def ruOK (x : RU) : Prop := x.1 ≤ 2 ∧ x.2.1 ≤ 365 ∧ x.2.2 ≤ 365 ∧ (x.1 = 2 → 2 ≤ x.2.1)
theorem ruP_ok {n : Nat} {t : Nat → Nat} {q : TS} (h : okB (ruP n t q).1 = true) : okB q = true ∧ ruOK (ruP n t q).2 := by
  unfold ruP at h ⊢
  by_cases c1 : tk n t 100 q = true
  · rw [if_pos c1] at h ⊢
    obtain ⟨h1, h2, h3⟩ := ok_nu h
    obtain ⟨h4, h5, h6⟩ := ok_nu (ok_mu h1)
    exact ⟨tk_ok c1, by show 0 ≤ 2; omega, h6, h3, fun z => by cases z⟩
  · rw [if_neg c1] at h ⊢
    by_cases c2 : tk n t 107 q = true
    · rw [if_pos c2] at h ⊢
      obtain ⟨h1, h2⟩ := ok_kd h
      exact ⟨tk_ok c2, by show 1 ≤ 2; omega, by show kdV n t (tkS n t 107 q) ≤ 365; omega, Nat.zero_le _, fun z => by cases z⟩
    · rw [if_neg c2] at h ⊢
      obtain ⟨h1, h2, h3⟩ := ok_nu h
      obtain ⟨h4, h5, h6⟩ := ok_nu (ok_mu h1)
      have := nuV_lt n t (mu n t 114 q)
      exact ⟨ok_mu h4, Nat.le_refl 2, by show nuV n t (mu n t 114 q) ≤ 365; omega, by show nuV n t (mu n t 58 (nuS n t 2 9 (mu n t 114 q))) ≤ 365; omega, fun _ => h5⟩
def rsP (n : Nat) (t : Nat → Nat) : Nat → TS → List RU → TS × List RU
  | 0, q, l => (flA q, l)
  | r + 1, q, l => if tk n t 59 (ruP n t q).1 = true then rsP n t r (tkS n t 59 (ruP n t q).1) (l ++ [(ruP n t q).2]) else (enS n (ruP n t q).1, l ++ [(ruP n t q).2])
theorem rsP_ok {n : Nat} {t : Nat → Nat} : ∀ {r : Nat} {q : TS} {l : List RU}, (∀ x ∈ l, ruOK x) → okB (rsP n t r q l).1 = true → (∀ x ∈ (rsP n t r q l).2, ruOK x) ∧ (rsP n t r q l).2.length ≤ l.length + r ∧ l.length < (rsP n t r q l).2.length
  | 0, q, l, hl, h => by rw [rsP, ok_fl] at h; cases h
  | r + 1, q, l, hl, h => by
    have hx : ∀ {y : RU}, ruOK y → ∀ x ∈ l ++ [y], ruOK x := fun hy x hx => by
      rcases List.mem_append.mp hx with z | z
      · exact hl x z
      · rw [List.mem_singleton] at z; rw [z]; exact hy
    rw [rsP] at h ⊢
    by_cases c : tk n t 59 (ruP n t q).1 = true
    · rw [if_pos c] at h ⊢
      have h1 := rsP_ok (hx (ruP_ok (tk_ok c)).2) h
      rw [List.length_append, List.length_singleton] at h1
      exact ⟨h1.1, by omega, by omega⟩
    · rw [if_neg c] at h ⊢
      have h2 := ruP_ok (ok_en h).1
      refine ⟨hx h2.2, ?_, ?_⟩
      · show (l ++ [(ruP n t q).2]).length ≤ _
        rw [List.length_append, List.length_singleton]; omega
      · show _ < (l ++ [(ruP n t q).2]).length
        rw [List.length_append, List.length_singleton]; omega
/-! RULES in the class -/
theorem ruP_d {n : Nat} {t : Nat → Nat} {q : TS} (c1 : tk n t 100 q = true) : ruP n t q = (nuS n t (nuV n t (tkS n t 100 q)) 365 (mu n t 45 (nuS n t 0 365 (tkS n t 100 q))), (0, nuV n t (tkS n t 100 q), nuV n t (mu n t 45 (nuS n t 0 365 (tkS n t 100 q))))) := by
  unfold ruP
  rw [if_pos c1]
theorem ruP_k {n : Nat} {t : Nat → Nat} {q : TS} (c1 : tk n t 100 q = false) (c2 : tk n t 107 q = true) : ruP n t q = (kdS n t (tkS n t 107 q), (1, kdV n t (tkS n t 107 q), 0)) := by
  unfold ruP
  rw [if_neg (by rw [c1]; decide), if_pos c2]
theorem ruP_r {n : Nat} {t : Nat → Nat} {q : TS} (c1 : tk n t 100 q = false) (c2 : tk n t 107 q = false) : ruP n t q = (nuS n t 0 (nuV n t (mu n t 114 q) - 1) (mu n t 58 (nuS n t 2 9 (mu n t 114 q))), (2, nuV n t (mu n t 114 q), nuV n t (mu n t 58 (nuS n t 2 9 (mu n t 114 q))))) := by
  unfold ruP
  rw [if_neg (by rw [c1]; decide), if_neg (by rw [c2]; decide)]
def RWc (M : Mm) (i : Nat) (x : RU) : Prop := M 44 i = nI x.1 ∧ M 45 i = nI x.2.1 ∧ M 46 i = nI x.2.2
theorem SX_readRule {d : Nat} {n : Nat} {t : Nat → Nat} {M : Mm} {Q : Po} {i : Nat} {q : TS} (hi : i < 8) (hT : TC n t M q) (h : ∀ M', EqO [41, 44, 45, 46] M M' → TC n t M' (ruP n t q).1 → (∀ j, j ≠ i → M' 44 j = M 44 j ∧ M' 45 j = M 45 j ∧ M' 46 j = M 46 j) → (okB (ruP n t q).1 = true → RWc M' i (ruP n t q).2) → Q M' none) : Call (d + 4) mX_readRule [.ref 43, .int (nI i)] M Q := by
  have hfin : ∀ (M' : Mm) (x y z : Int32), EqO [41, 44, 45, 46] M M' → TC n t M' (ruP n t q).1 → M' 44 = upd (M 44) i x → M' 45 = upd (M 45) i y → M' 46 = upd (M 46) i z → (okB (ruP n t q).1 = true → x = nI (ruP n t q).2.1 ∧ y = nI (ruP n t q).2.2.1 ∧ z = nI (ruP n t q).2.2.2) → Q M' none := by
    intro M' x y z hE hT' r1 r2 r3 hv
    refine h M' hE hT' (fun j hj => ?_) (fun hok => ?_)
    · rw [r1, r2, r3, upd_off hj, upd_off hj, upd_off hj]; exact ⟨rfl, rfl, rfl⟩
    · obtain ⟨v1, v2, v3⟩ := hv hok
      unfold RWc
      rw [r1, r2, r3, upd_at, upd_at, upd_at]
      exact ⟨v1, v2, v3⟩
  clear h
  refine Call_of (m := mX_readRule) [some (.ref 43), some (.int (nI i))] rfl (fun G => Nat.le_of_ble_eq_true rfl) (fun G => rfl) ?_
  refine g_iload_n dX8_readRule_0 rfl ?_
  refine g_if_lt_n 10 dX8_readRule_1 (by decide) (by omega) ?_
  refine g_iload_n dX8_readRule_4 rfl ?_
  refine g_bipush (nI 8) dX8_readRule_5 kb_8 ?_
  refine g_icmp_lt_n 11 dX8_readRule_7 (by decide) (by omega) (by omega) (fun c7 => ?_) (fun c7 => ?_)
  rotate_left
  · exact absurd hi c7
  refine g_aload_n dX8_readRule_11 rfl ?_
  refine g_getr (j := 1) dX8_readRule_12 gc8 rfl (by decide) rfl (by decide) fl_X_34 ?_
  refine g_bipush (nI 100) dX8_readRule_15 kb_100 ?_
  refine g_call1 dX8_readRule_17 clT_takesIf ml_X_71 gc7 rfl rfl (by decide) (Nat.le_of_ble_eq_true rfl) ?_
  refine ST_takesIf (c := 100) (by omega) hT (fun M1 hE1 hT1 => ?_)
  by_cases c1 : tk n t 100 q = true
  · rw [ruP_d c1] at hfin
    dsimp only at hfin
    rw [c1]
    refine g_if_eq_tt 81 dX8_readRule_20 (by decide) ?_
    refine g_aload_n dX8_readRule_23 rfl ?_
    refine g_getr (j := 2) dX8_readRule_24 gc8 rfl (by decide) rfl (by decide) fl_X_9 ?_
    refine g_iload_n dX8_readRule_27 rfl ?_
    refine g_iconst (nI 0) dX8_readRule_28 ki_0 ?_
    refine g_iast_n dX8_readRule_29 (by first | rfl | assumption) (by first | decide | assumption) (by omega) (by omega) ?_
    refine g_aload_n dX8_readRule_30 rfl ?_
    refine g_getr (j := 3) dX8_readRule_31 gc8 rfl (by decide) rfl (by decide) fl_X_15 ?_
    refine g_iload_n dX8_readRule_34 rfl ?_
    refine g_aload_n dX8_readRule_35 rfl ?_
    refine g_getr (j := 1) dX8_readRule_36 gc8 rfl (by decide) rfl (by decide) fl_X_34 ?_
    refine g_iconst (nI 0) dX8_readRule_39 ki_0 ?_
    refine g_sipush (nI 365) dX8_readRule_40 ks_365 ?_
    refine g_call2 dX8_readRule_43 clT_takeNumber ml_X_75 gc7 rfl rfl (by decide) (Nat.le_of_ble_eq_true rfl) ?_
    refine ST_takeNumber (lo := 0) (hi := 365) (hT1.off (mset_ne (by decide)) (mset_ne (by decide))) (fun _ => ⟨rfl, rfl⟩) (by omega) (by omega) (fun M2 v1 hE2 hT2 hv1 => ?_)
    refine g_iast_n dX8_readRule_46 (by first | rfl | assumption) (by first | decide | assumption) (by omega) (by omega) ?_
    refine g_aload_n dX8_readRule_47 rfl ?_
    refine g_getr (j := 1) dX8_readRule_48 gc8 rfl (by decide) rfl (by decide) fl_X_34 ?_
    refine g_bipush (nI 45) dX8_readRule_51 kb_45 ?_
    refine g_call1 dX8_readRule_53 clT_take ml_X_79 gc7 rfl rfl (by decide) (Nat.le_of_ble_eq_true rfl) ?_
    refine ST_take (c := 45) (by omega) (hT2.off (mset_ne (by decide)) (mset_ne (by decide))) (fun M3 hE3 hT3 => ?_)
    have e45 : M3 45 i = v1 := by rw [hE3 45 (by decide), mset_at]
    refine g_aload_n dX8_readRule_56 rfl ?_
    refine g_getr (j := 4) dX8_readRule_57 gc8 rfl (by decide) rfl (by decide) fl_X_18 ?_
    refine g_iload_n dX8_readRule_60 rfl ?_
    refine g_aload_n dX8_readRule_61 rfl ?_
    refine g_getr (j := 1) dX8_readRule_62 gc8 rfl (by decide) rfl (by decide) fl_X_34 ?_
    refine g_aload_n dX8_readRule_65 rfl ?_
    refine g_getr (j := 3) dX8_readRule_66 gc8 rfl (by decide) rfl (by decide) fl_X_15 ?_
    refine g_iload_n dX8_readRule_69 rfl ?_
    refine g_iald_n dX8_readRule_70 (by first | rfl | assumption) (by first | decide | assumption) (by omega) (by omega) ?_
    try simp (disch := omega) only [e45]
    refine g_sipush (nI 365) dX8_readRule_71 ks_365 ?_
    refine g_call2 dX8_readRule_74 clT_takeNumber ml_X_75 gc7 rfl rfl (by decide) (Nat.le_of_ble_eq_true rfl) ?_
    refine ST_takeNumber (lo := nuV n t (tkS n t 100 q)) (hi := 365) hT3 (fun hok => ⟨hv1 (ok_nu (ok_mu hok)).1, rfl⟩) (nuV_lt n t _) (by omega) (fun M4 v2 hE4 hT4 hv2 => ?_)
    refine g_iast_n dX8_readRule_77 (by first | rfl | assumption) (by first | decide | assumption) (by omega) (by omega) ?_
    refine g_goto 186 dX8_readRule_78 (by decide) ?_
    refine g_return dX8_readRule_186 rfl ?_
    refine hfin _ (nI 0) v1 v2 ((((((hE1.sub (by decide)).tr (EqO.set (by decide))).tr (hE2.sub (by decide))).tr (EqO.set (by decide))).tr (hE3.sub (by decide))).tr ((hE4.sub (by decide)).tr (EqO.set (by decide)))) (hT4.off (mset_ne (by decide)) (mset_ne (by decide))) ?_ ?_ ?_ (fun hok => ?_)
    · rw [mset_ne (by decide), hE4 44 (by decide), hE3 44 (by decide), mset_ne (by decide), hE2 44 (by decide), mset_same, hE1 44 (by decide)]
    · rw [mset_ne (by decide), hE4 45 (by decide), hE3 45 (by decide), mset_same, hE2 45 (by decide), mset_ne (by decide), hE1 45 (by decide)]
    · rw [mset_same, hE4 46 (by decide), hE3 46 (by decide), mset_ne (by decide), hE2 46 (by decide), mset_ne (by decide), hE1 46 (by decide)]
    · exact ⟨rfl, hv1 (ok_nu (ok_mu (ok_nu hok).1)).1, hv2 (ok_nu hok).1⟩
  · have c1 := Bool.eq_false_iff.mpr c1
    rw [c1]
    rw [tkS_f c1] at hT1
    refine g_if_eq_ff 81 dX8_readRule_20 (by decide) ?_
    refine g_aload_n dX8_readRule_81 rfl ?_
    refine g_getr (j := 1) dX8_readRule_82 gc8 rfl (by decide) rfl (by decide) fl_X_34 ?_
    refine g_bipush (nI 107) dX8_readRule_85 kb_107 ?_
    refine g_call1 dX8_readRule_87 clT_takesIf ml_X_71 gc7 rfl rfl (by decide) (Nat.le_of_ble_eq_true rfl) ?_
    refine ST_takesIf (c := 107) (by omega) hT1 (fun M2 hE2 hT2 => ?_)
    by_cases c2 : tk n t 107 q = true
    · rw [ruP_k c1 c2] at hfin
      dsimp only at hfin
      rw [c2]
      refine g_if_eq_tt 123 dX8_readRule_90 (by decide) ?_
      refine g_aload_n dX8_readRule_93 rfl ?_
      refine g_getr (j := 2) dX8_readRule_94 gc8 rfl (by decide) rfl (by decide) fl_X_9 ?_
      refine g_iload_n dX8_readRule_97 rfl ?_
      refine g_iconst (nI 1) dX8_readRule_98 ki_1 ?_
      refine g_iast_n dX8_readRule_99 (by first | rfl | assumption) (by first | decide | assumption) (by omega) (by omega) ?_
      refine g_aload_n dX8_readRule_100 rfl ?_
      refine g_getr (j := 3) dX8_readRule_101 gc8 rfl (by decide) rfl (by decide) fl_X_15 ?_
      refine g_iload_n dX8_readRule_104 rfl ?_
      refine g_aload_n dX8_readRule_105 rfl ?_
      refine g_getr (j := 1) dX8_readRule_106 gc8 rfl (by decide) rfl (by decide) fl_X_34 ?_
      refine g_call0 dX8_readRule_109 clT_takeKind ml_X_82 gc7 rfl rfl (by decide) (Nat.le_of_ble_eq_true rfl) ?_
      refine ST_takeKind (hT2.off (mset_ne (by decide)) (mset_ne (by decide))) (fun M3 hE3 hT3 => ?_)
      refine g_iast_n dX8_readRule_112 (by first | rfl | assumption) (by first | decide | assumption) (by omega) (by omega) ?_
      refine g_aload_n dX8_readRule_113 rfl ?_
      refine g_getr (j := 4) dX8_readRule_114 gc8 rfl (by decide) rfl (by decide) fl_X_18 ?_
      refine g_iload_n dX8_readRule_117 rfl ?_
      refine g_iconst (nI 0) dX8_readRule_118 ki_0 ?_
      refine g_iast_n dX8_readRule_119 (by first | rfl | assumption) (by first | decide | assumption) (by omega) (by omega) ?_
      refine g_goto 186 dX8_readRule_120 (by decide) ?_
      refine g_return dX8_readRule_186 rfl ?_
      refine hfin _ (nI 1) (kv (kdV n t (tkS n t 107 q))) (nI 0) ((((hE1.sub (by decide)).tr (hE2.sub (by decide))).tr (EqO.set (by decide))).tr (((hE3.sub (by decide)).tr (EqO.set (by decide))).tr (EqO.set (by decide)))) ((hT3.off (mset_ne (by decide)) (mset_ne (by decide))).off (mset_ne (by decide)) (mset_ne (by decide))) ?_ ?_ ?_ (fun hok => ⟨rfl, ?_, rfl⟩)
      · rw [mset_ne (by decide), mset_ne (by decide), hE3 44 (by decide), mset_same, hE2 44 (by decide), hE1 44 (by decide)]
      · rw [mset_ne (by decide), mset_same, hE3 45 (by decide), mset_ne (by decide), hE2 45 (by decide), hE1 45 (by decide)]
      · rw [mset_same, mset_ne (by decide), hE3 46 (by decide), mset_ne (by decide), hE2 46 (by decide), hE1 46 (by decide)]
      · unfold kv
        rw [if_neg (by have := (ok_kd hok).2; omega)]
    · have c2 := Bool.eq_false_iff.mpr c2
      rw [ruP_r c1 c2] at hfin
      dsimp only at hfin
      rw [c2]
      rw [tkS_f c2] at hT2
      refine g_if_eq_ff 123 dX8_readRule_90 (by decide) ?_
      refine g_aload_n dX8_readRule_123 rfl ?_
      refine g_getr (j := 1) dX8_readRule_124 gc8 rfl (by decide) rfl (by decide) fl_X_34 ?_
      refine g_bipush (nI 114) dX8_readRule_127 kb_114 ?_
      refine g_call1 dX8_readRule_129 clT_take ml_X_79 gc7 rfl rfl (by decide) (Nat.le_of_ble_eq_true rfl) ?_
      refine ST_take (c := 114) (by omega) hT2 (fun M3 hE3 hT3 => ?_)
      refine g_aload_n dX8_readRule_132 rfl ?_
      refine g_getr (j := 2) dX8_readRule_133 gc8 rfl (by decide) rfl (by decide) fl_X_9 ?_
      refine g_iload_n dX8_readRule_136 rfl ?_
      refine g_iconst (nI 2) dX8_readRule_137 ki_2 ?_
      refine g_iast_n dX8_readRule_138 (by first | rfl | assumption) (by first | decide | assumption) (by omega) (by omega) ?_
      refine g_aload_n dX8_readRule_139 rfl ?_
      refine g_getr (j := 3) dX8_readRule_140 gc8 rfl (by decide) rfl (by decide) fl_X_15 ?_
      refine g_iload_n dX8_readRule_143 rfl ?_
      refine g_aload_n dX8_readRule_144 rfl ?_
      refine g_getr (j := 1) dX8_readRule_145 gc8 rfl (by decide) rfl (by decide) fl_X_34 ?_
      refine g_iconst (nI 2) dX8_readRule_148 ki_2 ?_
      refine g_bipush (nI 9) dX8_readRule_149 kb_9 ?_
      refine g_call2 dX8_readRule_151 clT_takeNumber ml_X_75 gc7 rfl rfl (by decide) (Nat.le_of_ble_eq_true rfl) ?_
      refine ST_takeNumber (lo := 2) (hi := 9) (hT3.off (mset_ne (by decide)) (mset_ne (by decide))) (fun _ => ⟨rfl, rfl⟩) (by omega) (by omega) (fun M4 v1 hE4 hT4 hv1 => ?_)
      refine g_iast_n dX8_readRule_154 (by first | rfl | assumption) (by first | decide | assumption) (by omega) (by omega) ?_
      refine g_aload_n dX8_readRule_155 rfl ?_
      refine g_getr (j := 1) dX8_readRule_156 gc8 rfl (by decide) rfl (by decide) fl_X_34 ?_
      refine g_bipush (nI 58) dX8_readRule_159 kb_58 ?_
      refine g_call1 dX8_readRule_161 clT_take ml_X_79 gc7 rfl rfl (by decide) (Nat.le_of_ble_eq_true rfl) ?_
      refine ST_take (c := 58) (by omega) (hT4.off (mset_ne (by decide)) (mset_ne (by decide))) (fun M5 hE5 hT5 => ?_)
      have e45 : M5 45 i = v1 := by rw [hE5 45 (by decide), mset_at]
      refine g_aload_n dX8_readRule_164 rfl ?_
      refine g_getr (j := 4) dX8_readRule_165 gc8 rfl (by decide) rfl (by decide) fl_X_18 ?_
      refine g_iload_n dX8_readRule_168 rfl ?_
      refine g_aload_n dX8_readRule_169 rfl ?_
      refine g_getr (j := 1) dX8_readRule_170 gc8 rfl (by decide) rfl (by decide) fl_X_34 ?_
      refine g_iconst (nI 0) dX8_readRule_173 ki_0 ?_
      refine g_aload_n dX8_readRule_174 rfl ?_
      refine g_getr (j := 3) dX8_readRule_175 gc8 rfl (by decide) rfl (by decide) fl_X_15 ?_
      refine g_iload_n dX8_readRule_178 rfl ?_
      refine g_iald_n dX8_readRule_179 (by first | rfl | assumption) (by first | decide | assumption) (by omega) (by omega) ?_
      try simp (disch := omega) only [e45]
      refine g_iconst (nI 1) dX8_readRule_180 ki_1 ?_
      refine g_isub dX8_readRule_181 ?_
      refine g_call2 dX8_readRule_182 clT_takeNumber ml_X_75 gc7 rfl rfl (by decide) (Nat.le_of_ble_eq_true rfl) ?_
      have hlt := nuV_lt n t (mu n t 114 q)
      refine ST_takeNumber (lo := 0) (hi := nuV n t (mu n t 114 q) - 1) hT5 (fun hok => ⟨rfl, ?_⟩) (by omega) (by omega) (fun M6 v2 hE6 hT6 hv2 => ?_)
      · obtain ⟨g1, g2, g3⟩ := ok_nu (ok_mu hok)
        rw [hv1 g1, nI_sub (by omega)]
      refine g_iast_n dX8_readRule_185 (by first | rfl | assumption) (by first | decide | assumption) (by omega) (by omega) ?_
      refine g_return dX8_readRule_186 rfl ?_
      refine hfin _ (nI 2) v1 v2 ((((((hE1.sub (by decide)).tr ((hE2.sub (by decide)).tr (hE3.sub (by decide)))).tr (EqO.set (by decide))).tr (hE4.sub (by decide))).tr (EqO.set (by decide))).tr ((hE5.sub (by decide)).tr ((hE6.sub (by decide)).tr (EqO.set (by decide))))) (hT6.off (mset_ne (by decide)) (mset_ne (by decide))) ?_ ?_ ?_ (fun hok => ?_)
      · rw [mset_ne (by decide), hE6 44 (by decide), hE5 44 (by decide), mset_ne (by decide), hE4 44 (by decide), mset_same, hE3 44 (by decide), hE2 44 (by decide), hE1 44 (by decide)]
      · rw [mset_ne (by decide), hE6 45 (by decide), hE5 45 (by decide), mset_same, hE4 45 (by decide), mset_ne (by decide), hE3 45 (by decide), hE2 45 (by decide), hE1 45 (by decide)]
      · rw [mset_same, hE6 46 (by decide), hE5 46 (by decide), mset_ne (by decide), hE4 46 (by decide), mset_ne (by decide), hE3 46 (by decide), hE2 46 (by decide), hE1 46 (by decide)]
      · exact ⟨rfl, hv1 (ok_nu (ok_mu (ok_nu hok).1)).1, hv2 (ok_nu hok).1⟩
abbrev z3 : RU := (0, 0, 0)
def RWl (M : Mm) (l : List RU) : Prop := ∀ j, j < l.length → RWc M j (l.getD j z3)
theorem getD_appR {l : List RU} {x : RU} {i : Nat} (h : i < l.length) : (l ++ [x]).getD i z3 = l.getD i z3 := by
  rw [List.getD_eq_getElem?_getD, List.getD_eq_getElem?_getD, List.getElem?_append_left h]
theorem getD_lastR {l : List RU} {x : RU} : (l ++ [x]).getD l.length z3 = x := by
  rw [List.getD_eq_getElem?_getD, List.getElem?_append_right (Nat.le_refl _), Nat.sub_self]
  rfl
theorem RWl.app {M M' : Mm} {l : List RU} {x : RU} (h : RWl M l) (h1 : ∀ j, j ≠ l.length → M' 44 j = M 44 j ∧ M' 45 j = M 45 j ∧ M' 46 j = M 46 j) (h2 : RWc M' l.length x) : RWl M' (l ++ [x]) := by
  intro j hj
  rw [List.length_append, List.length_singleton] at hj
  by_cases e : j = l.length
  · subst e; rw [getD_lastR]; exact h2
  · rw [getD_appR (by omega)]
    obtain ⟨k1, k2, k3⟩ := h1 j e
    unfold RWc
    rw [k1, k2, k3]
    exact h j (by omega)
theorem RWl.off {M M' : Mm} {l : List RU} (h : RWl M l) (h1 : M' 44 = M 44) (h2 : M' 45 = M 45) (h3 : M' 46 = M 46) : RWl M' l := by
  intro j hj
  unfold RWc
  rw [h1, h2, h3]
  exact h j hj
theorem SX_readRules {d : Nat} {n : Nat} {t : Nat → Nat} {M : Mm} {S : BS} {Q : Po} {p : Nat} (hB : BK M S) (hp : p < S 0 0 0) (hT : TPc n t M) (h : ∀ M', EqO [41, 43, 44, 45, 46] M M' → TC n t M' (rsP n t (8 - S 6 p 0) (.inl 0) []).1 → (okB (rsP n t (8 - S 6 p 0) (.inl 0) []).1 = true → M' 43 8 = nI (rsP n t (8 - S 6 p 0) (.inl 0) []).2.length ∧ RWl M' (rsP n t (8 - S 6 p 0) (.inl 0) []).2) → Q M' none) : Call (d + 5) mX_readRules [.ref 43, .int (nI p)] M Q := by
  have hw := hB.wf.np
  have hr8 := hB.wf.nr (p := p) (by omega)
  refine Call_of (m := mX_readRules) [some (.ref 43), some (.int (nI p)), none, none] rfl (fun G => Nat.le_of_ble_eq_true rfl) (fun G => rfl) ?_
  refine g_bipush (nI 8) dX8_readRules_0 kb_8 ?_
  refine g_aload_n dX8_readRules_2 rfl ?_
  refine g_getr (j := 0) dX8_readRules_3 gc8 rfl (by decide) rfl (by decide) fl_X_30 ?_
  refine g_iload_n dX8_readRules_6 rfl ?_
  refine g_call1 dX8_readRules_7 clB_countRulesOf ml_X_42 gc0 rfl rfl (by decide) (Nat.le_of_ble_eq_true rfl) ?_
  refine SB_countRulesOf hB hp ?_
  first | refine g_isub_n dX8_readRules_10 (by omega) ?_ | refine g_isub dX8_readRules_10 ?_
  refine g_ist4_2 dX8_readRules_11 (by decide) rfl ?_
  refine g_aload_n dX8_readRules_12 rfl ?_
  refine g_getr (j := 1) dX8_readRules_13 gc8 rfl (by decide) rfl (by decide) fl_X_34 ?_
  refine g_call0 dX8_readRules_16 clT_start ml_X_48 gc7 rfl rfl (by decide) (Nat.le_of_ble_eq_true rfl) ?_
  refine ST_start hT (fun M0 hE0 hT0 => ?_)
  refine g_iconst (nI 0) dX8_readRules_19 ki_0 ?_
  refine g_ist4_3 dX8_readRules_20 (by decide) rfl ?_
  suffices hloop : ∀ r q l M', l.length + r = 8 - S 6 p 0 → EqO [41, 43, 44, 45, 46] M M' → TC n t M' q → okB q = true → RWl M' l → rsP n t (8 - S 6 p 0) (.inl 0) [] = rsP n t r q l → Go mX_readRules (d + 5) Q 21 [some (.ref 43), some (.int (nI p)), some (.int (nI (8 - S 6 p 0))), some (.int (nI l.length))] [] M' by
    exact hloop _ _ [] M0 (by simp) (hE0.sub (by decide)) hT0 rfl (fun j hj => absurd hj (by simp)) rfl
  intro r
  induction r with
  | zero =>
    intro q l M' hl hE hT1 hok hR hq
    rw [hq, rsP] at h
    refine g_iload_n dX8_readRules_21 rfl ?_
    refine g_iload_n dX8_readRules_22 rfl ?_
    refine g_icmp_ge_n 71 dX8_readRules_23 (by decide) (by omega) (by omega) (fun c23 => ?_) (fun c23 => ?_)
    · skip
      refine g_aload_n dX8_readRules_71 rfl ?_
      refine g_getr (j := 1) dX8_readRules_72 gc8 rfl (by decide) rfl (by decide) fl_X_34 ?_
      refine g_aload_n dX8_readRules_75 rfl ?_
      refine g_getr (j := 1) dX8_readRules_76 gc8 rfl (by decide) rfl (by decide) fl_X_34 ?_
      refine g_call0 dX8_readRules_79 clT_at ml_X_64 gc7 rfl rfl (by decide) (Nat.le_of_ble_eq_true rfl) ?_
      refine ST_at ?_
      refine g_call1 dX8_readRules_82 clT_fail ml_X_68 gc7 rfl rfl (by decide) (Nat.le_of_ble_eq_true rfl) ?_
      refine ST_failA hT1 rfl (fun M2 hE2 hT2 => ?_)
      refine g_return dX8_readRules_85 rfl ?_
      exact h M2 (hE.tr (hE2.sub (by decide))) hT2 (fun z => by rw [ok_fl] at z; cases z)
    · exact absurd hl (by omega)
  | succ r ih =>
    intro q l M' hl hE hT1 hok hR hq
    rw [rsP] at hq
    refine g_iload_n dX8_readRules_21 rfl ?_
    refine g_iload_n dX8_readRules_22 rfl ?_
    refine g_icmp_ge_n 71 dX8_readRules_23 (by decide) (by omega) (by omega) (fun c23 => ?_) (fun c23 => ?_)
    · exact absurd hl (by omega)
    · refine g_iload_n dX8_readRules_26 rfl ?_
      refine g_bipush (nI 8) dX8_readRules_27 kb_8 ?_
      refine g_icmp_ge_n 71 dX8_readRules_29 (by decide) (by omega) (by omega) (fun c29 => ?_) (fun c29 => ?_)
      · exact absurd hl (by omega)
      · refine g_aload_n dX8_readRules_32 rfl ?_
        refine g_iload_n dX8_readRules_33 rfl ?_
        refine g_call1 dX8_readRules_34 clX_readRule ml_X_53 gc8 rfl rfl (by decide) (Nat.le_of_ble_eq_true rfl) ?_
        refine SX_readRule (by omega) hT1 (fun M2 hE2 hT2 ho2 hv2 => ?_)
        refine g_aload_n dX8_readRules_37 rfl ?_
        refine g_iload_n dX8_readRules_38 rfl ?_
        refine g_iconst (nI 1) dX8_readRules_39 ki_1 ?_
        first | refine g_iadd_n dX8_readRules_40 ?_ | refine g_iadd dX8_readRules_40 ?_
        refine g_puti (j := 8) dX8_readRules_41 gc8 rfl (by decide) rfl (by decide) fl_X_38 rfl (tyX8_ok 8 (by decide)) (by first | rfl | exact nar_bI _) rfl ?_
        refine g_aload_n dX8_readRules_44 rfl ?_
        refine g_getr (j := 1) dX8_readRules_45 gc8 rfl (by decide) rfl (by decide) fl_X_34 ?_
        refine g_call0 dX8_readRules_48 clT_isFaulty ml_X_57 gc7 rfl rfl (by decide) (Nat.le_of_ble_eq_true rfl) ?_
        have hT3 : TC n t (mset M2 43 8 (nI (l.length + 1))) (ruP n t q).1 := hT2.off (mset_ne (by decide)) (mset_ne (by decide))
        have hE3 : EqO [41, 43, 44, 45, 46] M (mset M2 43 8 (nI (l.length + 1))) := (hE.tr (hE2.sub (by decide))).tr (EqO.set (by decide))
        refine ST_isFaulty hT3 ?_
        by_cases hok2 : okB (ruP n t q).1 = true
        · have hR2 : RWl (mset M2 43 8 (nI (l.length + 1))) (l ++ [(ruP n t q).2]) := RWl.off (hR.app ho2 (hv2 hok2)) (mset_ne (by decide)) (mset_ne (by decide)) (mset_ne (by decide))
          rw [hok2]
          refine g_if_ne_ff 64 dX8_readRules_51 (by decide) ?_
          refine g_aload_n dX8_readRules_54 rfl ?_
          refine g_getr (j := 1) dX8_readRules_55 gc8 rfl (by decide) rfl (by decide) fl_X_34 ?_
          refine g_call0 dX8_readRules_58 clT_takesPart ml_X_61 gc7 rfl rfl (by decide) (Nat.le_of_ble_eq_true rfl) ?_
          refine ST_takesPart hT3 (fun M4 hE4 hT4 => ?_)
          have hR4 : RWl M4 (l ++ [(ruP n t q).2]) := hR2.off (hE4 44 (by decide)) (hE4 45 (by decide)) (hE4 46 (by decide))
          by_cases c : tk n t 59 (ruP n t q).1 = true
          · rw [if_pos c] at hq hT4
            rw [c]
            refine g_if_ne_tt 65 dX8_readRules_61 (by decide) ?_
            first | refine g_incn4_3 dX8_readRules_65 ki_1 (by decide) rfl ?_ | refine g_incg4_3 (nI 1) dX8_readRules_65 ki_1 (by decide) rfl ?_
            refine g_goto 21 dX8_readRules_68 (by decide) ?_
            rw [show l.length + 1 = (l ++ [(ruP n t q).2]).length by simp]
            exact ih _ _ M4 (by simp; omega) (hE3.tr (hE4.sub (by decide))) hT4 (by rw [ok_tk]; exact hok2) hR4 hq
          · rw [if_neg c] at hq hT4
            rw [hq] at h
            rw [Bool.eq_false_iff.mpr c]
            refine g_if_ne_ff 65 dX8_readRules_61 (by decide) ?_
            refine g_return dX8_readRules_64 rfl ?_
            refine h M4 (hE3.tr (hE4.sub (by decide))) hT4 (fun _ => ⟨?_, hR4⟩)
            rw [hE4 43 (by decide), mset_at]
            simp
        · have hok2 := Bool.eq_false_iff.mpr hok2
          rw [if_neg (by rw [tk_no hok2]; decide)] at hq
          rw [hq, en_no hok2] at h
          rw [hok2]
          refine g_if_ne_tt 64 dX8_readRules_51 (by decide) ?_
          refine g_return dX8_readRules_64 rfl ?_
          exact h _ hE3 hT3 (fun z => by rw [hok2] at z; cases z)
/-! rules given: the state, the class -/
def adR (S : BS) (p : Nat) (f : Nat → RU) (k : Nat) : BS := fun a b c =>
  if b = p ∧ a = 6 ∧ c = 0 then S 6 p 0 + k
  else if b = p ∧ a = 7 ∧ S 6 p 0 ≤ c ∧ c < S 6 p 0 + k then (f (c - S 6 p 0)).1
  else if b = p ∧ a = 8 ∧ S 6 p 0 ≤ c ∧ c < S 6 p 0 + k then (f (c - S 6 p 0)).2.1
  else if b = p ∧ a = 9 ∧ S 6 p 0 ≤ c ∧ c < S 6 p 0 + k then (f (c - S 6 p 0)).2.2
  else S a b c
theorem adR_oth {S : BS} {p : Nat} {f : Nat → RU} {k a : Nat} (h : ¬ (6 ≤ a ∧ a ≤ 9)) : adR S p f k a = S a := by
  funext b c
  unfold adR
  rw [if_neg (by omega), if_neg (by omega), if_neg (by omega), if_neg (by omega)]
theorem adR_off {S : BS} {p : Nat} {f : Nat → RU} {k a b c : Nat} (h : b ≠ p) : adR S p f k a b c = S a b c := by
  unfold adR
  rw [if_neg (fun z => h z.1), if_neg (fun z => h z.1), if_neg (fun z => h z.1), if_neg (fun z => h z.1)]
theorem adR_6 (S : BS) (p : Nat) (f : Nat → RU) (k : Nat) : adR S p f k 6 p 0 = S 6 p 0 + k := by
  unfold adR
  rw [if_pos ⟨rfl, rfl, rfl⟩]
theorem adR_old {S : BS} {p : Nat} {f : Nat → RU} {k a c : Nat} (ha : a ≠ 6) (h : ¬ (S 6 p 0 ≤ c ∧ c < S 6 p 0 + k)) : adR S p f k a p c = S a p c := by
  unfold adR
  rw [if_neg (fun z => ha z.2.1), if_neg (fun z => h z.2.2), if_neg (fun z => h z.2.2), if_neg (fun z => h z.2.2)]
theorem adR_7 {S : BS} {p : Nat} {f : Nat → RU} {k c : Nat} (h : S 6 p 0 ≤ c ∧ c < S 6 p 0 + k) : adR S p f k 7 p c = (f (c - S 6 p 0)).1 := by
  unfold adR
  rw [if_neg (by omega), if_pos ⟨rfl, rfl, h⟩]
theorem adR_8 {S : BS} {p : Nat} {f : Nat → RU} {k c : Nat} (h : S 6 p 0 ≤ c ∧ c < S 6 p 0 + k) : adR S p f k 8 p c = (f (c - S 6 p 0)).2.1 := by
  unfold adR
  rw [if_neg (by omega), if_neg (by omega), if_pos ⟨rfl, rfl, h⟩]
theorem adR_9 {S : BS} {p : Nat} {f : Nat → RU} {k c : Nat} (h : S 6 p 0 ≤ c ∧ c < S 6 p 0 + k) : adR S p f k 9 p c = (f (c - S 6 p 0)).2.2 := by
  unfold adR
  rw [if_neg (by omega), if_neg (by omega), if_neg (by omega), if_pos ⟨rfl, rfl, h⟩]
theorem adR_0 (S : BS) (p : Nat) (f : Nat → RU) : adR S p f 0 = S := by
  funext a b c
  unfold adR
  by_cases z : b = p ∧ a = 6 ∧ c = 0
  · rw [if_pos z]
    obtain ⟨rfl, rfl, rfl⟩ := z
    rfl
  · rw [if_neg z, if_neg (by omega), if_neg (by omega), if_neg (by omega)]
theorem adR_wf {S : BS} (hW : WF S) {p : Nat} {f : Nat → RU} {k : Nat} (hp : p < S 0 0 0) (hk : S 6 p 0 + k ≤ 8) (hv : ∀ j, j < k → ruOK (f j)) : WF (adR S p f k) := by
  obtain ⟨b1, b2, b3, b4, b5, b6, b7, b8, b9, b10, b11⟩ := hW
  have o := fun (a : Nat) (h : ¬ (6 ≤ a ∧ a ≤ 9)) => adR_oth (S := S) (p := p) (f := f) (k := k) h
  simp only [WF, o 0 (by omega), o 1 (by omega), o 3 (by omega), o 4 (by omega), o 5 (by omega), o 10 (by omega), o 11 (by omega), o 12 (by omega), o 13 (by omega)]
  refine ⟨b1, b2, b3, b4, b5, b6, fun q hq => ?_, fun q r hq hr => ?_, b9, b10, b11⟩
  · by_cases e : q = p
    · subst e; rw [adR_6]; exact hk
    · rw [adR_off e]; exact b7 q hq
  · by_cases e : q = p
    · subst e
      by_cases z : S 6 q 0 ≤ r ∧ r < S 6 q 0 + k
      · rw [adR_7 z, adR_8 z, adR_9 z]
        exact hv _ (by omega)
      · rw [adR_old (by decide) z, adR_old (by decide) z, adR_old (by decide) z]; exact b8 q r hq hr
    · rw [adR_off e, adR_off e, adR_off e]; exact b8 q r hq hr
theorem BKadR {M M' : Mm} {S : BS} (hB : BK M S) {p : Nat} {f : Nat → RU} {k : Nat} (hp : p < S 0 0 0) (hk : S 6 p 0 + k ≤ 8) (hv : ∀ j, j < k → ruOK (f j)) (h6 : M' 6 p = nI (S 6 p 0 + k)) (h7 : ∀ j, j < k → M' 7 (p * 8 + (S 6 p 0 + j)) = nI (f j).1 ∧ M' 8 (p * 8 + (S 6 p 0 + j)) = nI (f j).2.1 ∧ M' 9 (p * 8 + (S 6 p 0 + j)) = nI (f j).2.2)
    (hkp : ∀ a c, ¬ (a = 6 ∧ c = p) → ¬ ((a = 7 ∨ a = 8 ∨ a = 9) ∧ p * 8 + S 6 p 0 ≤ c ∧ c < p * 8 + S 6 p 0 + k) → M' a c = M a c) : BK M' (adR S p f k) := by
  have o := fun (a : Nat) (h : ¬ (6 ≤ a ∧ a ≤ 9)) => adR_oth (S := S) (p := p) (f := f) (k := k) h
  have hsd : ∀ j, sd (adR S p f k) j = sd S j := fun j => by simp only [sd, o 1 (by omega), o 10 (by omega)]
  have hnp := hB.wf.np
  have hnr8 := fun q (hq : q < S 0 0 0) => hB.wf.nr (p := q) (by omega)
  refine ⟨adR_wf hB.wf hp hk hv, ?_, ?_, ?_, fun d hd => ?_, fun q hq => ?_, fun q hq => ?_, fun q j hq hj => ?_, fun q hq => ?_, fun q r hq hr => ?_, fun d hd => ?_, fun q d hq hd => ?_⟩
  · rw [hkp 1 0 (by omega) (by omega), o 0 (by omega)]; exact hB.np
  · rw [hkp 1 1 (by omega) (by omega), o 1 (by omega)]; exact hB.nd
  · rw [hkp 1 2 (by omega) (by omega), o 2 (by omega)]; exact hB.yr
  · rw [o 1 (by omega)] at hd
    rw [hkp 2 d (by omega) (by omega), o 12 (by omega)]; exact hB.ho hd
  · rw [o 0 (by omega)] at hq
    rw [hkp 3 q (by omega) (by omega), o 3 (by omega)]; exact hB.rk hq
  · rw [hkp 4 q (by omega) (by omega)]
    unfold hr
    rw [o 4 (by omega)]; exact hB.here hq
  · rw [o 0 (by omega)] at hq
    rw [hkp 5 _ (by omega) (by omega), o 5 (by omega)]; exact hB.ps hq hj
  · rw [o 0 (by omega)] at hq
    by_cases e : q = p
    · subst e; rw [adR_6]; exact h6
    · rw [adR_off e, hkp 6 q (by omega) (by omega)]; exact hB.nr hq
  · rw [o 0 (by omega)] at hq
    have hq8 := hnr8 q hq
    by_cases e : q = p
    · subst e
      rw [adR_6] at hr
      by_cases z : S 6 q 0 ≤ r ∧ r < S 6 q 0 + k
      · rw [adR_7 z, adR_8 z, adR_9 z]
        obtain ⟨y1, y2, y3⟩ := h7 (r - S 6 q 0) (by omega)
        rw [show S 6 q 0 + (r - S 6 q 0) = r by omega] at y1 y2 y3
        exact ⟨y1, y2, fun _ => y3⟩
      · rw [adR_old (by decide) z, adR_old (by decide) z, adR_old (by decide) z, hkp 7 _ (by omega) (by omega), hkp 8 _ (by omega) (by omega), hkp 9 _ (by omega) (by omega)]
        exact ⟨hB.rs hq (by omega), hB.ra hq (by omega), hB.rb hq (by omega)⟩
    · rw [adR_off e] at hr
      rw [adR_off e, adR_off e, adR_off e, hkp 7 _ (by omega) (by omega), hkp 8 _ (by omega) (by omega), hkp 9 _ (by omega) (by omega)]
      exact ⟨hB.rs hq hr, hB.ra hq hr, hB.rb hq hr⟩
  · rw [o 1 (by omega)] at hd
    rw [hsd, hkp 10 d (by omega) (by omega), hkp 11 d (by omega) (by omega), hkp 12 d (by omega) (by omega), o 10 (by omega), o 11 (by omega)]
    exact ⟨hB.dy hd, hB.kd hd, hB.st hd⟩
  · rw [o 0 (by omega)] at hq
    rw [hkp 13 _ (by omega) (by omega), o 13 (by omega)]; exact hB.dl hq hd
abbrev gR (l : List RU) : Nat → RU := fun j => l.getD j z3
theorem gR_ok {l : List RU} (h : ∀ x ∈ l, ruOK x) {j : Nat} (hj : j < l.length) : ruOK (gR l j) := by
  refine h _ ?_
  show l.getD j z3 ∈ l
  rw [List.getD_eq_getElem?_getD, List.getElem?_eq_getElem hj]
  exact List.getElem_mem hj
theorem SX_giveRules {d : Nat} {M : Mm} {S : BS} {Q : Po} {p : Nat} {l : List RU} (hB : BK M S) (hp : p < S 0 0 0) (hl : S 6 p 0 + l.length ≤ 8) (hv : ∀ x ∈ l, ruOK x) (hc : M 43 8 = nI l.length) (hR : RWl M l) (h : ∀ M', EqO [6, 7, 8, 9] M M' → BK M' (adR S p (gR l) l.length) → Q M' (some (.int (nI l.length)))) : Call (d + 4) mX_giveRules [.ref 43, .int (nI p)] M Q := by
  have hw := hB.wf.np
  refine Call_of (m := mX_giveRules) [some (.ref 43), some (.int (nI p)), none] rfl (fun G => Nat.le_of_ble_eq_true rfl) (fun G => rfl) ?_
  refine g_iconst (nI 0) dX8_giveRules_0 ki_0 ?_
  refine g_ist3_2 dX8_giveRules_1 (by decide) rfl ?_
  refine loop_up (P := fun i => ∀ M', EqO [6, 7, 8, 9] M M' → M' 6 p = nI (S 6 p 0 + i) → (∀ j, j < i → M' 7 (p * 8 + (S 6 p 0 + j)) = nI (gR l j).1 ∧ M' 8 (p * 8 + (S 6 p 0 + j)) = nI (gR l j).2.1 ∧ M' 9 (p * 8 + (S 6 p 0 + j)) = nI (gR l j).2.2) → (∀ a c, ¬ (a = 6 ∧ c = p) → ¬ ((a = 7 ∨ a = 8 ∨ a = 9) ∧ p * 8 + S 6 p 0 ≤ c ∧ c < p * 8 + S 6 p 0 + i) → M' a c = M a c) → Go mX_giveRules (d + 4) Q 2 [some (.ref 43), some (.int (nI p)), some (.int (nI i))] [] M') l.length ?_ 0 (Nat.zero_le _) M EqO.rf (hB.nr hp) (fun j hj => absurd hj (by omega)) (fun _ _ _ _ => rfl)
  intro i hi ih M' hE h6 h7 hkp
  have hB' := BKadR hB hp (by omega) (fun j hj => gR_ok hv (j := j) (by omega)) h6 h7 hkp
  have e0 : adR S p (gR l) i 0 0 0 = S 0 0 0 := by rw [adR_oth (by omega)]
  have hc' : M' 43 8 = nI l.length := by rw [hE 43 (by decide)]; exact hc
  refine g_iload_n dX8_giveRules_2 rfl ?_
  refine g_aload_n dX8_giveRules_3 rfl ?_
  refine g_geti (j := 8) dX8_giveRules_4 gc8 rfl (by decide) rfl (by decide) fl_X_38 ?_
  try simp (disch := omega) only [hc']
  refine g_icmp_ge_n 48 dX8_giveRules_7 (by decide) (by omega) (by omega) (fun c7 => ?_) (fun c7 => ?_)
  · refine g_aload_n dX8_giveRules_48 rfl ?_
    refine g_geti (j := 8) dX8_giveRules_49 gc8 rfl (by decide) rfl (by decide) fl_X_38 ?_
    try simp (disch := omega) only [hc']
    refine g_ireturn dX8_giveRules_52 rfl (by first | rfl | exact nar_bI _) ?_
    rw [show i = l.length by omega] at hB'
    exact h M' hE hB'
  · refine g_iload_n dX8_giveRules_10 rfl ?_
    refine g_bipush (nI 8) dX8_giveRules_11 kb_8 ?_
    refine g_icmp_ge_n 48 dX8_giveRules_13 (by decide) (by omega) (by omega) (fun c13 => ?_) (fun c13 => ?_)
    · exact absurd hl (by omega)
    · obtain ⟨r1, r2, r3⟩ := hR i (by omega)
      have s1 : M' 44 i = nI (gR l i).1 := by rw [hE 44 (by decide)]; exact r1
      have s2 : M' 45 i = nI (gR l i).2.1 := by rw [hE 45 (by decide)]; exact r2
      have s3 : M' 46 i = nI (gR l i).2.2 := by rw [hE 46 (by decide)]; exact r3
      refine g_aload_n dX8_giveRules_16 rfl ?_
      refine g_getr (j := 0) dX8_giveRules_17 gc8 rfl (by decide) rfl (by decide) fl_X_30 ?_
      refine g_iload_n dX8_giveRules_20 rfl ?_
      refine g_aload_n dX8_giveRules_21 rfl ?_
      refine g_getr (j := 2) dX8_giveRules_22 gc8 rfl (by decide) rfl (by decide) fl_X_9 ?_
      refine g_iload_n dX8_giveRules_25 rfl ?_
      refine g_iald_n dX8_giveRules_26 (by first | rfl | assumption) (by first | decide | assumption) (by omega) (by omega) ?_
      try simp (disch := omega) only [s1, s2, s3]
      refine g_aload_n dX8_giveRules_27 rfl ?_
      refine g_getr (j := 3) dX8_giveRules_28 gc8 rfl (by decide) rfl (by decide) fl_X_15 ?_
      refine g_iload_n dX8_giveRules_31 rfl ?_
      refine g_iald_n dX8_giveRules_32 (by first | rfl | assumption) (by first | decide | assumption) (by omega) (by omega) ?_
      try simp (disch := omega) only [s1, s2, s3]
      refine g_aload_n dX8_giveRules_33 rfl ?_
      refine g_getr (j := 4) dX8_giveRules_34 gc8 rfl (by decide) rfl (by decide) fl_X_18 ?_
      refine g_iload_n dX8_giveRules_37 rfl ?_
      refine g_iald_n dX8_giveRules_38 (by first | rfl | assumption) (by first | decide | assumption) (by omega) (by omega) ?_
      try simp (disch := omega) only [s1, s2, s3]
      refine g_call4 dX8_giveRules_39 clB_addRule ml_X_85 gc0 rfl rfl (by decide) (Nat.le_of_ble_eq_true rfl) ?_
      refine SB_addRule hB' (by rw [e0]; exact hp) (by rw [adR_6]; omega) ?_
      rw [adR_6]
      first | refine g_incn3_2 dX8_giveRules_42 ki_1 (by decide) rfl ?_ | refine g_incg3_2 (nI 1) dX8_giveRules_42 ki_1 (by decide) rfl ?_
      refine g_goto 2 dX8_giveRules_45 (by decide) ?_
      refine ih (by omega) _ (hE.tr ((((EqO.set (by decide)).tr (EqO.set (by decide))).tr (EqO.set (by decide))).tr (EqO.set (by decide)))) ?_ (fun j hj => ?_) (fun a c n1 n2 => ?_)
      · rw [mset_at]; rfl
      · by_cases e : j = i
        · subst e
          refine ⟨?_, ?_, ?_⟩
          · rw [mset_off (by omega), mset_off (by omega), mset_off (by omega), mset_at]
          · rw [mset_off (by omega), mset_off (by omega), mset_at]
          · rw [mset_off (by omega), mset_at]
        · obtain ⟨y1, y2, y3⟩ := h7 j (by omega)
          refine ⟨?_, ?_, ?_⟩
          · rw [mset_off (by omega), mset_off (by omega), mset_off (by omega), mset_off (by omega)]; exact y1
          · rw [mset_off (by omega), mset_off (by omega), mset_off (by omega), mset_off (by omega)]; exact y2
          · rw [mset_off (by omega), mset_off (by omega), mset_off (by omega), mset_off (by omega)]; exact y3
      · rw [mset_off (by omega), mset_off (by omega), mset_off (by omega), mset_off (by omega)]
        exact hkp a c n1 (by omega)
def f_rules (x : Int32) (S : BS) (n : Nat) (t : Nat → Nat) : Int32 × BS × Bool :=
  if inR x (S 0 0 0) = true then
    (if hr S (v2n x) = true then (clV (nI (rsP n t (8 - S 6 (v2n x) 0) (.inl 0) []).2.length) (rsP n t (8 - S 6 (v2n x) 0) (.inl 0) []).1, if okB (rsP n t (8 - S 6 (v2n x) 0) (.inl 0) []).1 = true then opnI (adR S (v2n x) (gR (rsP n t (8 - S 6 (v2n x) 0) (.inl 0) []).2) (rsP n t (8 - S 6 (v2n x) 0) (.inl 0) []).2.length) (v2n x) (S 1 0 0) else S, false) else (-3, S, true))
  else (-1, S, true)
theorem SF_faultAnswer {d : Nat} {n : Nat} {t : Nat → Nat} {M : Mm} {Q : Po} {f : Nat} (hT : TC n t M (.inr f)) (h : Q (mset M 41 1 (nI 0)) (some (.int (-100 - nI f)))) : Call (d + 2) mF_faultAnswer [.ref 0] M Q := by
  have e3 : M 41 3 = nI f := hT.2.2.1
  refine Call_of (m := mF_faultAnswer) [some (.ref 0), none] rfl (fun G => Nat.le_of_ble_eq_true rfl) (fun G => rfl) ?_
  refine g_bipush ((-100)) dX9_faultAnswer_0 kb_m100 ?_
  refine g_aload_n dX9_faultAnswer_2 rfl ?_
  refine g_getr (j := 6) dX9_faultAnswer_3 gc9 rfl (by decide) rfl (by decide) fl_F_49 ?_
  refine g_call0 dX9_faultAnswer_6 clT_fault ml_F_337 gc7 rfl rfl (by decide) (Nat.le_of_ble_eq_true rfl) ?_
  refine ST_fault ?_
  rw [e3]
  refine g_isub dX9_faultAnswer_9 ?_
  refine g_ist2_1 dX9_faultAnswer_10 (by decide) rfl ?_
  refine g_aload_n dX9_faultAnswer_11 rfl ?_
  refine g_getr (j := 6) dX9_faultAnswer_12 gc9 rfl (by decide) rfl (by decide) fl_F_49 ?_
  refine g_call0 dX9_faultAnswer_15 clT_wipe ml_F_158 gc7 rfl rfl (by decide) (Nat.le_of_ble_eq_true rfl) ?_
  refine ST_wipe ?_
  refine g_pop dX9_faultAnswer_18 rfl ?_
  refine g_iload_n dX9_faultAnswer_19 rfl ?_
  refine g_ireturn dX9_faultAnswer_20 rfl (by first | rfl | exact nar_bI _) ?_
  exact h
theorem SF_rules (x : Int32) (M : Mm) (S : BS) (n : Nat) (t : Nat → Nat) (Q : Po) (hB : BK M S) (hH : HM S) (hT : TPc n t M) (h : ∀ M', FxC M M' → BK M' (f_rules x S n t).2.1 → M' 41 1 = (if (f_rules x S n t).2.2 = true then nI n else nI 0) → Q M' (some (.int (f_rules x S n t).1))) : Call 60 mF_rules [.ref 0, .int x] M Q := by
  have hw := hB.wf.np
  unfold f_rules at h
  refine Call_of (m := mF_rules) [some (.ref 0), some (.int x), none] rfl (fun G => Nat.le_of_ble_eq_true rfl) (fun G => rfl) ?_
  refine g_aload_n dX9_rules_0 rfl ?_
  refine g_getr (j := 0) dX9_rules_1 gc9 rfl (by decide) rfl (by decide) fl_F_13 ?_
  refine g_iload_n dX9_rules_4 rfl ?_
  refine g_call1 dX9_rules_5 clB_isOne ml_F_91 gc0 rfl rfl (by decide) (Nat.le_of_ble_eq_true rfl) ?_
  refine SB_isOne hB x ?_
  refine g_if_ne_b 13 dX9_rules_8 (by decide) (fun c8 => ?_) (fun c8 => ?_)
  · obtain ⟨p, hp, rfl⟩ := inR_true c8
    rw [if_pos c8, v2n_nI (show p < 2 ^ 31 by omega)] at h
    have hr8 := hB.wf.nr (p := p) (by omega)
    refine g_aload_n dX9_rules_13 rfl ?_
    refine g_getr (j := 0) dX9_rules_14 gc9 rfl (by decide) rfl (by decide) fl_F_13 ?_
    refine g_iload_n dX9_rules_17 rfl ?_
    refine g_call1 dX9_rules_18 clB_isHere ml_F_95 gc0 rfl rfl (by decide) (Nat.le_of_ble_eq_true rfl) ?_
    refine SB_isHere hB (by omega) ?_
    refine g_if_ne_b 27 dX9_rules_21 (by decide) (fun c21 => ?_) (fun c21 => ?_)
    · rw [if_pos c21] at h
      dsimp only at h
      refine g_aload_n dX9_rules_27 rfl ?_
      refine g_getr (j := 7) dX9_rules_28 gc9 rfl (by decide) rfl (by decide) fl_F_58 ?_
      refine g_iload_n dX9_rules_31 rfl ?_
      refine g_call1 dX9_rules_32 clX_readRules ml_F_142 gc8 rfl rfl (by decide) (Nat.le_of_ble_eq_true rfl) ?_
      refine SX_readRules hB hp hT (fun M1 hE1 hT1 hv1 => ?_)
      have hB1 : BK M1 S := hB.eqO hE1 (by decide)
      generalize hrs : rsP n t (8 - S 6 p 0) (.inl 0) [] = r at h hT1 hv1
      refine g_aload_n dX9_rules_35 rfl ?_
      refine g_getr (j := 6) dX9_rules_36 gc9 rfl (by decide) rfl (by decide) fl_F_49 ?_
      refine g_call0 dX9_rules_39 clT_isFaulty ml_F_145 gc7 rfl rfl (by decide) (Nat.le_of_ble_eq_true rfl) ?_
      refine ST_isFaulty hT1 ?_
      by_cases hok : okB r.1 = true
      · obtain ⟨v1, v2, v3⟩ := rsP_ok (n := n) (t := t) (r := 8 - S 6 p 0) (q := .inl 0) (l := []) (fun x hx => absurd hx (by simp)) (by rw [hrs]; exact hok)
        rw [hrs] at v1 v2
        obtain ⟨u1, u2⟩ := hv1 hok
        rw [if_pos hok] at h
        rw [hok]
        refine g_if_eq_ff 50 dX9_rules_42 (by decide) ?_
        refine g_aload_n dX9_rules_50 rfl ?_
        refine g_getr (j := 7) dX9_rules_51 gc9 rfl (by decide) rfl (by decide) fl_F_58 ?_
        refine g_iload_n dX9_rules_54 rfl ?_
        refine g_call1 dX9_rules_55 clX_giveRules ml_F_152 gc8 rfl rfl (by decide) (Nat.le_of_ble_eq_true rfl) ?_
        refine SX_giveRules hB1 hp (by simp at v2; omega) v1 u1 u2 (fun M2 hE2 hB2 => ?_)
        refine g_ist3_2 dX9_rules_58 (by decide) rfl ?_
        refine g_aload_n dX9_rules_59 rfl ?_
        refine g_getr (j := 0) dX9_rules_60 gc9 rfl (by decide) rfl (by decide) fl_F_13 ?_
        refine g_iload_n dX9_rules_63 rfl ?_
        refine g_call1 dX9_rules_64 clB_openWhatMayNotBeHeldBy ml_F_155 gc0 rfl rfl (by decide) (Nat.le_of_ble_eq_true rfl) ?_
        have e1 : adR S p (gR r.2) r.2.length 1 0 0 = S 1 0 0 := by rw [adR_oth (by omega)]
        refine SB_openWhat hB2 (by omega) (fun M3 hE3 hB3 => ?_)
        rw [e1] at hB3
        refine g_aload_n dX9_rules_67 rfl ?_
        refine g_getr (j := 6) dX9_rules_68 gc9 rfl (by decide) rfl (by decide) fl_F_49 ?_
        refine g_call0 dX9_rules_71 clT_wipe ml_F_158 gc7 rfl rfl (by decide) (Nat.le_of_ble_eq_true rfl) ?_
        refine ST_wipe ?_
        refine g_pop dX9_rules_74 rfl ?_
        refine g_iload_n dX9_rules_75 rfl ?_
        refine g_ireturn dX9_rules_76 rfl (by first | rfl | exact nar_bI _) ?_
        obtain ⟨q, r2⟩ := r
        cases q with
        | inl a =>
          refine h (mset M3 41 1 (nI 0)) (FxC.of (L := [2, 6, 7, 8, 9, 41, 43, 44, 45, 46]) ((hE1.sub (by decide)).tr ((hE2.sub (by decide)).tr ((hE3.sub (by decide)).tr (EqO.set (by decide))))) (by decide)) (hB3.off (fun k k1 k2 => mset_ne (by omega))) ?_
          rw [mset_at]; rfl
        | inr f => cases hok
      · have hok := Bool.eq_false_iff.mpr hok
        rw [if_neg (by rw [hok]; decide)] at h
        rw [hok]
        obtain ⟨q, r2⟩ := r
        cases q with
        | inl a => cases hok
        | inr f =>
          refine g_if_eq_tt 50 dX9_rules_42 (by decide) ?_
          refine g_aload_n dX9_rules_45 rfl ?_
          refine g_call0 dX9_rules_46 clF_faultAnswer ml_F_149 gc9 rfl rfl (by decide) (Nat.le_of_ble_eq_true rfl) ?_
          refine SF_faultAnswer hT1 ?_
          refine g_ireturn dX9_rules_49 rfl (by first | rfl | exact nar_bI _) ?_
          refine h (mset M1 41 1 (nI 0)) (FxC.of (L := [41, 43, 44, 45, 46]) (hE1.tr (EqO.set (by decide))) (by decide)) (hB1.off (fun k k1 k2 => mset_ne (by omega))) ?_
          rw [mset_at]; rfl
    · rw [if_neg (by rw [c21]; decide)] at h
      refine g_bipush ((-3)) dX9_rules_24 kb_m3 ?_
      refine g_ireturn dX9_rules_26 rfl (by first | rfl | exact nar_bI _) ?_
      exact h M FxC.rf hB hT.2.2.1
  · rw [if_neg (by rw [c8]; decide)] at h
    refine g_iconst ((-1)) dX9_rules_11 ki_m1 ?_
    refine g_ireturn dX9_rules_12 rfl (by first | rfl | exact nar_bI _) ?_
    exact h M FxC.rf hB hT.2.2.1
/-! rules in the reference -/
theorem upd_self (f : Nat → Int32) (j : Nat) : upd f j (f j) = f := by
  funext i
  by_cases e : i = j
  · subst e; rw [upd_at]
  · rw [upd_off e]
def RWm1 (M : Mm) (i : Nat) (x : RU) : Prop := M 70 (3 * i) = nI x.1 ∧ M 70 (3 * i + 1) = nI x.2.1 ∧ (x.1 ≠ 1 → M 70 (3 * i + 2) = nI x.2.2)
theorem SM_readsRuleF {d : Nat} {n : Nat} {t : Nat → Nat} {M : Mm} {Q : Po} {i r : Nat} {q : TS} (hr : r ≤ i) (hi : i < 100) (hT : TM n t M q) (h24 : M 57 24 = nI i) (h : ∀ M', EqT M M' → TM n t M' (flA q) → Q M' none) : Call (d + 4) mM_readsRule [.ref 57, .int (nI r)] M Q := by
  refine Call_of (m := mM_readsRule) [some (.ref 57), some (.int (nI r)), none] rfl (fun G => Nat.le_of_ble_eq_true rfl) (fun G => rfl) ?_
  refine g_aload_n dX10_readsRule_0 rfl ?_
  refine g_geti (j := 24) dX10_readsRule_1 gc10 rfl (by decide) rfl (by decide) fl_M_270 ?_
  try simp (disch := omega) only [h24]
  refine g_iload_n dX10_readsRule_4 rfl ?_
  refine g_icmp_lt_n 17 dX10_readsRule_5 (by decide) (by omega) (by omega) (fun c5 => ?_) (fun c5 => ?_)
  · exact absurd hr (by omega)
  · refine g_aload_n dX10_readsRule_8 rfl ?_
    refine g_aload_n dX10_readsRule_9 rfl ?_
    refine g_geti (j := 20) dX10_readsRule_10 gc10 rfl (by decide) rfl (by decide) fl_M_251 ?_
    try simp (disch := omega) only [h24]
    refine g_call1 dX10_readsRule_13 clM_faults ml_M_260 gc10 rfl rfl (by decide) (Nat.le_of_ble_eq_true rfl) ?_
    refine SM_faultsA hT rfl (fun M1 hE1 hT1 => ?_)
    refine g_return dX10_readsRule_16 rfl ?_
    exact h M1 hE1 hT1
theorem SM_readsRule {d : Nat} {n : Nat} {t : Nat → Nat} {M : Mm} {Q : Po} {i r : Nat} {q : TS} (hi : i < r) (hr : r ≤ 8) (hT : TM n t M q) (hC : MC M) (h24 : M 57 24 = nI i) (h : ∀ M', EqQ [70] M M' → TM n t M' (ruP n t q).1 → M' 57 24 = nI (i + 1) → (∀ j, j < 3 * i → M' 70 j = M 70 j) → (okB (ruP n t q).1 = true → RWm1 M' i (ruP n t q).2) → Q M' none) : Call (d + 4) mM_readsRule [.ref 57, .int (nI r)] M Q := by
  have hfin : ∀ (M' : Mm) (x y z : Int32), EqQ [70] M M' → M' 57 24 = nI i → TM n t M' (ruP n t q).1 → M' 70 = upd (upd (upd (M 70) (3 * i) x) (3 * i + 1) y) (3 * i + 2) z → (okB (ruP n t q).1 = true → x = nI (ruP n t q).2.1 ∧ y = nI (ruP n t q).2.2.1 ∧ ((ruP n t q).2.1 ≠ 1 → z = nI (ruP n t q).2.2.2)) → Go mM_readsRule (d + 4) Q 176 [some (.ref 57), some (.int (nI r)), some (.int (nI (3 * i)))] [] M' := by
    intro M' x y z hE h24' hT' h70 hv
    refine g_aload_n dX10_readsRule_176 rfl ?_
    refine g_dup dX10_readsRule_177 rfl ?_
    refine g_geti (j := 24) dX10_readsRule_178 gc10 rfl (by decide) rfl (by decide) fl_M_270 ?_
    try simp (disch := omega) only [h24']
    refine g_iconst (nI 1) dX10_readsRule_181 ki_1 ?_
    first | refine g_iadd_n dX10_readsRule_182 ?_ | refine g_iadd dX10_readsRule_182 ?_
    refine g_puti (j := 24) dX10_readsRule_183 gc10 rfl (by decide) rfl (by decide) fl_M_270 rfl (tyX10_ok 24 (by decide)) (by first | rfl | exact nar_bI _) rfl ?_
    refine g_return dX10_readsRule_186 rfl ?_
    refine h _ (hE.tr (EqQ.set57 (by omega))) (hT'.off (mset_ne (by decide)) (fun j hj => mset_off (by omega))) (mset_at _ _ _ _) (fun j hj => ?_) (fun hok => ?_)
    · rw [mset_ne (by decide), h70, upd_off (by omega), upd_off (by omega), upd_off (by omega)]
    · obtain ⟨v1, v2, v3⟩ := hv hok
      unfold RWm1
      rw [mset_ne (by decide), h70]
      refine ⟨?_, ?_, fun z1 => ?_⟩
      · rw [upd_off (by omega), upd_off (by omega), upd_at]; exact v1
      · rw [upd_off (by omega), upd_at]; exact v2
      · rw [upd_at]; exact v3 z1
  clear h
  refine Call_of (m := mM_readsRule) [some (.ref 57), some (.int (nI r)), none] rfl (fun G => Nat.le_of_ble_eq_true rfl) (fun G => rfl) ?_
  refine g_aload_n dX10_readsRule_0 rfl ?_
  refine g_geti (j := 24) dX10_readsRule_1 gc10 rfl (by decide) rfl (by decide) fl_M_270 ?_
  try simp (disch := omega) only [h24]
  refine g_iload_n dX10_readsRule_4 rfl ?_
  refine g_icmp_lt_n 17 dX10_readsRule_5 (by decide) (by omega) (by omega) (fun c5 => ?_) (fun c5 => ?_)
  rotate_left
  · exact absurd hi c5
  refine g_iconst (nI 3) dX10_readsRule_17 ki_3 ?_
  refine g_aload_n dX10_readsRule_18 rfl ?_
  refine g_geti (j := 24) dX10_readsRule_19 gc10 rfl (by decide) rfl (by decide) fl_M_270 ?_
  try simp (disch := omega) only [h24]
  first | refine g_imul_n dX10_readsRule_22 ?_ | refine g_imul dX10_readsRule_22 ?_
  refine g_ist3_2 dX10_readsRule_23 (by decide) rfl ?_
  refine g_aload_n dX10_readsRule_24 rfl ?_
  refine g_bipush (nI 100) dX10_readsRule_25 kb_100 ?_
  refine g_call1 dX10_readsRule_27 clM_takes ml_M_257 gc10 rfl rfl (by decide) (Nat.le_of_ble_eq_true rfl) ?_
  refine SM_takes (c := 100) (by omega) hT (fun M1 hE1 hT1 => ?_)
  by_cases c1 : tk n t 100 q = true
  · rw [ruP_d c1] at hfin
    dsimp only at hfin
    rw [c1]
    refine g_if_eq_tt 88 dX10_readsRule_30 (by decide) ?_
    refine g_aload_n dX10_readsRule_33 rfl ?_
    refine g_getr (j := 23) dX10_readsRule_34 gc10 rfl (by decide) rfl (by decide) fl_M_47 ?_
    refine g_iload_n dX10_readsRule_37 rfl ?_
    refine g_iconst (nI 0) dX10_readsRule_38 ki_0 ?_
    refine g_iast_n dX10_readsRule_39 (by first | rfl | assumption) (by first | decide | assumption) (by omega) (by omega) ?_
    refine g_aload_n dX10_readsRule_40 rfl ?_
    refine g_getr (j := 23) dX10_readsRule_41 gc10 rfl (by decide) rfl (by decide) fl_M_47 ?_
    refine g_iload_n dX10_readsRule_44 rfl ?_
    refine g_iconst (nI 1) dX10_readsRule_45 ki_1 ?_
    first | refine g_iadd_n dX10_readsRule_46 ?_ | refine g_iadd dX10_readsRule_46 ?_
    refine g_aload_n dX10_readsRule_47 rfl ?_
    refine g_iconst (nI 0) dX10_readsRule_48 ki_0 ?_
    refine g_sipush (nI 365) dX10_readsRule_49 ks_365 ?_
    refine g_call2 dX10_readsRule_52 clM_number ml_M_273 gc10 rfl rfl (by decide) (Nat.le_of_ble_eq_true rfl) ?_
    refine SM_number (lo := 0) (hi := 365) (hT1.off (mset_ne (by decide)) (fun j hj => by rw [mset_ne (by decide)])) (fun _ => ⟨rfl, rfl⟩) (by omega) (by omega) (fun M2 v1 hE2 hT2 hv1 => ?_)
    refine g_iast_n dX10_readsRule_55 (by first | rfl | assumption) (by first | decide | assumption) (by omega) (by omega) ?_
    refine g_aload_n dX10_readsRule_56 rfl ?_
    refine g_bipush (nI 45) dX10_readsRule_57 kb_45 ?_
    refine g_call1 dX10_readsRule_59 clM_must ml_M_276 gc10 rfl rfl (by decide) (Nat.le_of_ble_eq_true rfl) ?_
    refine SM_must (c := 45) (by omega) (hT2.off (mset_ne (by decide)) (fun j hj => by rw [mset_ne (by decide)])) (fun M3 hE3 hT3 => ?_)
    have e45 : M3 70 (3 * i + 1) = v1 := by rw [hE3.row (by decide), mset_at]
    refine g_aload_n dX10_readsRule_62 rfl ?_
    refine g_getr (j := 23) dX10_readsRule_63 gc10 rfl (by decide) rfl (by decide) fl_M_47 ?_
    refine g_iload_n dX10_readsRule_66 rfl ?_
    refine g_iconst (nI 2) dX10_readsRule_67 ki_2 ?_
    first | refine g_iadd_n dX10_readsRule_68 ?_ | refine g_iadd dX10_readsRule_68 ?_
    refine g_aload_n dX10_readsRule_69 rfl ?_
    refine g_aload_n dX10_readsRule_70 rfl ?_
    refine g_getr (j := 23) dX10_readsRule_71 gc10 rfl (by decide) rfl (by decide) fl_M_47 ?_
    refine g_iload_n dX10_readsRule_74 rfl ?_
    refine g_iconst (nI 1) dX10_readsRule_75 ki_1 ?_
    first | refine g_iadd_n dX10_readsRule_76 ?_ | refine g_iadd dX10_readsRule_76 ?_
    refine g_iald_n dX10_readsRule_77 (by first | rfl | assumption) (by first | decide | assumption) (by omega) (by omega) ?_
    try simp (disch := omega) only [e45]
    refine g_sipush (nI 365) dX10_readsRule_78 ks_365 ?_
    refine g_call2 dX10_readsRule_81 clM_number ml_M_273 gc10 rfl rfl (by decide) (Nat.le_of_ble_eq_true rfl) ?_
    refine SM_number (lo := nuV n t (tkS n t 100 q)) (hi := 365) hT3 (fun hok => ⟨hv1 (ok_nu (ok_mu hok)).1, rfl⟩) (nuV_lt n t _) (by omega) (fun M4 v2 hE4 hT4 hv2 => ?_)
    refine g_iast_n dX10_readsRule_84 (by first | rfl | assumption) (by first | decide | assumption) (by omega) (by omega) ?_
    refine g_goto 176 dX10_readsRule_85 (by decide) ?_
    refine hfin _ (nI 0) v1 v2 ?_ ?_ (hT4.off (mset_ne (by decide)) (fun j hj => by rw [mset_ne (by decide)])) ?_ (fun hok => ⟨rfl, hv1 (ok_nu (ok_mu (ok_nu hok).1)).1, fun _ => hv2 (ok_nu hok).1⟩)
    · exact (((hE1.q.sub (by simp)).tr (EqQ.set (by decide))).tr ((hE2.q.sub (by simp)).tr (EqQ.set (by decide)))).tr ((hE3.q.sub (by simp)).tr ((hE4.q.sub (by simp)).tr (EqQ.set (by decide))))
    · rw [mset_ne (by decide), hE4 57 24 (by omega), hE3 57 24 (by omega), mset_ne (by decide), hE2 57 24 (by omega), mset_ne (by decide), hE1 57 24 (by omega)]; exact h24
    · rw [mset_same, hE4.row (by decide), hE3.row (by decide), mset_same, hE2.row (by decide), mset_same, hE1.row (by decide)]
  · have c1 := Bool.eq_false_iff.mpr c1
    rw [c1]
    rw [tkS_f c1] at hT1
    refine g_if_eq_ff 88 dX10_readsRule_30 (by decide) ?_
    refine g_aload_n dX10_readsRule_88 rfl ?_
    refine g_bipush (nI 107) dX10_readsRule_89 kb_107 ?_
    refine g_call1 dX10_readsRule_91 clM_takes ml_M_257 gc10 rfl rfl (by decide) (Nat.le_of_ble_eq_true rfl) ?_
    refine SM_takes (c := 107) (by omega) hT1 (fun M2 hE2 hT2 => ?_)
    by_cases c2 : tk n t 107 q = true
    · rw [ruP_k c1 c2] at hfin
      dsimp only at hfin
      rw [c2]
      refine g_if_eq_tt 119 dX10_readsRule_94 (by decide) ?_
      refine g_aload_n dX10_readsRule_97 rfl ?_
      refine g_getr (j := 23) dX10_readsRule_98 gc10 rfl (by decide) rfl (by decide) fl_M_47 ?_
      refine g_iload_n dX10_readsRule_101 rfl ?_
      refine g_iconst (nI 1) dX10_readsRule_102 ki_1 ?_
      refine g_iast_n dX10_readsRule_103 (by first | rfl | assumption) (by first | decide | assumption) (by omega) (by omega) ?_
      refine g_aload_n dX10_readsRule_104 rfl ?_
      refine g_getr (j := 23) dX10_readsRule_105 gc10 rfl (by decide) rfl (by decide) fl_M_47 ?_
      refine g_iload_n dX10_readsRule_108 rfl ?_
      refine g_iconst (nI 1) dX10_readsRule_109 ki_1 ?_
      first | refine g_iadd_n dX10_readsRule_110 ?_ | refine g_iadd dX10_readsRule_110 ?_
      refine g_aload_n dX10_readsRule_111 rfl ?_
      refine g_call0 dX10_readsRule_112 clM_kindLetter ml_M_279 gc10 rfl rfl (by decide) (Nat.le_of_ble_eq_true rfl) ?_
      refine SM_kindLetter (hT2.off (mset_ne (by decide)) (fun j hj => by rw [mset_ne (by decide)])) ⟨fun j hj => by rw [mset_ne (by decide), hE2.row (by decide), hE1.row (by decide)]; exact hC.1 j hj, fun j hj => by rw [mset_ne (by decide), hE2.row (by decide), hE1.row (by decide)]; exact hC.2 j hj⟩ (fun M3 hE3 hT3 => ?_)
      refine g_iast_n dX10_readsRule_115 (by first | rfl | assumption) (by first | decide | assumption) (by omega) (by omega) ?_
      refine g_goto 176 dX10_readsRule_116 (by decide) ?_
      refine hfin _ (nI 1) (if kdV n t (tkS n t 107 q) = 4 then nI 0 else nI (kdV n t (tkS n t 107 q))) (upd (upd (M 70) (3 * i) (nI 1)) (3 * i + 1) (if kdV n t (tkS n t 107 q) = 4 then nI 0 else nI (kdV n t (tkS n t 107 q))) (3 * i + 2)) ?_ ?_ (hT3.off (mset_ne (by decide)) (fun j hj => by rw [mset_ne (by decide)])) (Eq.trans ?_ (upd_self _ _).symm) (fun hok => ⟨rfl, ?_, fun z => absurd rfl z⟩)
      · exact ((hE1.q.sub (by simp)).tr (hE2.q.sub (by simp))).tr ((EqQ.set (by decide)).tr ((hE3.q.sub (by simp)).tr (EqQ.set (by decide))))
      · rw [mset_ne (by decide), hE3 57 24 (by omega), mset_ne (by decide), hE2 57 24 (by omega), hE1 57 24 (by omega)]; exact h24
      · rw [mset_same, hE3.row (by decide), mset_same, hE2.row (by decide), hE1.row (by decide)]
      · rw [if_neg (by have := (ok_kd hok).2; omega)]
    · have c2 := Bool.eq_false_iff.mpr c2
      rw [ruP_r c1 c2] at hfin
      dsimp only at hfin
      rw [c2]
      rw [tkS_f c2] at hT2
      refine g_if_eq_ff 119 dX10_readsRule_94 (by decide) ?_
      refine g_aload_n dX10_readsRule_119 rfl ?_
      refine g_bipush (nI 114) dX10_readsRule_120 kb_114 ?_
      refine g_call1 dX10_readsRule_122 clM_must ml_M_276 gc10 rfl rfl (by decide) (Nat.le_of_ble_eq_true rfl) ?_
      refine SM_must (c := 114) (by omega) hT2 (fun M3 hE3 hT3 => ?_)
      refine g_aload_n dX10_readsRule_125 rfl ?_
      refine g_getr (j := 23) dX10_readsRule_126 gc10 rfl (by decide) rfl (by decide) fl_M_47 ?_
      refine g_iload_n dX10_readsRule_129 rfl ?_
      refine g_iconst (nI 2) dX10_readsRule_130 ki_2 ?_
      refine g_iast_n dX10_readsRule_131 (by first | rfl | assumption) (by first | decide | assumption) (by omega) (by omega) ?_
      refine g_aload_n dX10_readsRule_132 rfl ?_
      refine g_getr (j := 23) dX10_readsRule_133 gc10 rfl (by decide) rfl (by decide) fl_M_47 ?_
      refine g_iload_n dX10_readsRule_136 rfl ?_
      refine g_iconst (nI 1) dX10_readsRule_137 ki_1 ?_
      first | refine g_iadd_n dX10_readsRule_138 ?_ | refine g_iadd dX10_readsRule_138 ?_
      refine g_aload_n dX10_readsRule_139 rfl ?_
      refine g_iconst (nI 2) dX10_readsRule_140 ki_2 ?_
      refine g_bipush (nI 9) dX10_readsRule_141 kb_9 ?_
      refine g_call2 dX10_readsRule_143 clM_number ml_M_273 gc10 rfl rfl (by decide) (Nat.le_of_ble_eq_true rfl) ?_
      refine SM_number (lo := 2) (hi := 9) (hT3.off (mset_ne (by decide)) (fun j hj => by rw [mset_ne (by decide)])) (fun _ => ⟨rfl, rfl⟩) (by omega) (by omega) (fun M4 v1 hE4 hT4 hv1 => ?_)
      refine g_iast_n dX10_readsRule_146 (by first | rfl | assumption) (by first | decide | assumption) (by omega) (by omega) ?_
      refine g_aload_n dX10_readsRule_147 rfl ?_
      refine g_bipush (nI 58) dX10_readsRule_148 kb_58 ?_
      refine g_call1 dX10_readsRule_150 clM_must ml_M_276 gc10 rfl rfl (by decide) (Nat.le_of_ble_eq_true rfl) ?_
      refine SM_must (c := 58) (by omega) (hT4.off (mset_ne (by decide)) (fun j hj => by rw [mset_ne (by decide)])) (fun M5 hE5 hT5 => ?_)
      have e45 : M5 70 (3 * i + 1) = v1 := by rw [hE5.row (by decide), mset_at]
      refine g_aload_n dX10_readsRule_153 rfl ?_
      refine g_getr (j := 23) dX10_readsRule_154 gc10 rfl (by decide) rfl (by decide) fl_M_47 ?_
      refine g_iload_n dX10_readsRule_157 rfl ?_
      refine g_iconst (nI 2) dX10_readsRule_158 ki_2 ?_
      first | refine g_iadd_n dX10_readsRule_159 ?_ | refine g_iadd dX10_readsRule_159 ?_
      refine g_aload_n dX10_readsRule_160 rfl ?_
      refine g_iconst (nI 0) dX10_readsRule_161 ki_0 ?_
      refine g_aload_n dX10_readsRule_162 rfl ?_
      refine g_getr (j := 23) dX10_readsRule_163 gc10 rfl (by decide) rfl (by decide) fl_M_47 ?_
      refine g_iload_n dX10_readsRule_166 rfl ?_
      refine g_iconst (nI 1) dX10_readsRule_167 ki_1 ?_
      first | refine g_iadd_n dX10_readsRule_168 ?_ | refine g_iadd dX10_readsRule_168 ?_
      refine g_iald_n dX10_readsRule_169 (by first | rfl | assumption) (by first | decide | assumption) (by omega) (by omega) ?_
      try simp (disch := omega) only [e45]
      refine g_iconst (nI 1) dX10_readsRule_170 ki_1 ?_
      refine g_isub dX10_readsRule_171 ?_
      refine g_call2 dX10_readsRule_172 clM_number ml_M_273 gc10 rfl rfl (by decide) (Nat.le_of_ble_eq_true rfl) ?_
      have hlt := nuV_lt n t (mu n t 114 q)
      refine SM_number (lo := 0) (hi := nuV n t (mu n t 114 q) - 1) hT5 (fun hok => ⟨rfl, ?_⟩) (by omega) (by omega) (fun M6 v2 hE6 hT6 hv2 => ?_)
      · obtain ⟨g1, g2, g3⟩ := ok_nu (ok_mu hok)
        rw [hv1 g1, nI_sub (by omega)]
      refine g_iast_n dX10_readsRule_175 (by first | rfl | assumption) (by first | decide | assumption) (by omega) (by omega) ?_
      refine hfin _ (nI 2) v1 v2 ?_ ?_ (hT6.off (mset_ne (by decide)) (fun j hj => by rw [mset_ne (by decide)])) ?_ (fun hok => ⟨rfl, hv1 (ok_nu (ok_mu (ok_nu hok).1)).1, fun _ => hv2 (ok_nu hok).1⟩)
      · exact ((((hE1.q.sub (by simp)).tr (hE2.q.sub (by simp))).tr ((hE3.q.sub (by simp)).tr (EqQ.set (by decide)))).tr ((hE4.q.sub (by simp)).tr (EqQ.set (by decide)))).tr ((hE5.q.sub (by simp)).tr ((hE6.q.sub (by simp)).tr (EqQ.set (by decide))))
      · rw [mset_ne (by decide), hE6 57 24 (by omega), hE5 57 24 (by omega), mset_ne (by decide), hE4 57 24 (by omega), mset_ne (by decide), hE3 57 24 (by omega), hE2 57 24 (by omega), hE1 57 24 (by omega)]; exact h24
      · rw [mset_same, hE6.row (by decide), hE5.row (by decide), mset_same, hE4.row (by decide), mset_same, hE3.row (by decide), hE2.row (by decide), hE1.row (by decide)]
theorem MKadR {w w' : Nat → Int32} {S : BS} (hM : MK w S) {p : Nat} {f : Nat → RU} {k : Nat} (hp : p < S 0 0 0) (hk : S 6 p 0 + k ≤ 8) (hv : ∀ j, j < k → ruOK (f j)) (h6 : w' (51 + p) = nI (S 6 p 0 + k)) (h7 : ∀ j, j < k → w' (59 + 24 * p + 3 * (S 6 p 0 + j)) = nI (f j).1 ∧ w' (59 + 24 * p + 3 * (S 6 p 0 + j) + 1) = nI (f j).2.1 ∧ ((f j).1 ≠ 1 → w' (59 + 24 * p + 3 * (S 6 p 0 + j) + 2) = nI (f j).2.2))
    (hkp : ∀ j, j ≠ 51 + p → ¬ (59 + 24 * p + 3 * S 6 p 0 ≤ j ∧ j < 59 + 24 * p + 3 * (S 6 p 0 + k)) → w' j = w j) : MK w' (adR S p f k) := by
  have o := fun (a : Nat) (h : ¬ (6 ≤ a ∧ a ≤ 9)) => adR_oth (S := S) (p := p) (f := f) (k := k) h
  have hnp := hM.wf.np
  have hnd := hM.wf.nd
  have hnr8 := fun q (hq : q < S 0 0 0) => hM.wf.nr (p := q) (by omega)
  refine ⟨adR_wf hM.wf hp hk hv, ?_, ?_, ?_, fun q hq => ?_, fun q j hq hj => ?_, fun q r hq hr => ?_, fun d hd => ?_, fun q d hq hd => ?_, ?_⟩
  · rw [hkp 0 (by omega) (by omega), o 0 (by omega)]; exact hM.np
  · rw [hkp 1 (by omega) (by omega), o 2 (by omega)]; exact hM.yr
  · rw [hkp 2 (by omega) (by omega), o 1 (by omega)]; exact hM.nd
  · rw [o 0 (by omega)] at hq
    rw [hkp (3 + q) (by omega) (by omega), hkp (11 + q) (by omega) (by omega), o 4 (by omega), o 3 (by omega)]
    refine ⟨hM.hN hq, hM.rk hq, ?_⟩
    by_cases e : q = p
    · subst e; rw [adR_6]; exact h6
    · rw [adR_off e, hkp _ (by omega) (by omega)]; exact hM.nr hq
  · rw [o 0 (by omega)] at hq
    rw [hkp _ (by omega) (by omega), o 5 (by omega)]; exact hM.ps hq hj
  · rw [o 0 (by omega)] at hq
    have hq8 := hnr8 q hq
    by_cases e : q = p
    · subst e
      rw [adR_6] at hr
      by_cases z : S 6 q 0 ≤ r ∧ r < S 6 q 0 + k
      · rw [adR_7 z, adR_8 z, adR_9 z]
        have y := h7 (r - S 6 q 0) (by omega)
        rw [show S 6 q 0 + (r - S 6 q 0) = r by omega] at y
        exact y
      · rw [adR_old (by decide) z, adR_old (by decide) z, adR_old (by decide) z, hkp (59 + 24 * q + 3 * r) (by omega) (by omega), hkp (59 + 24 * q + 3 * r + 1) (by omega) (by omega), hkp (59 + 24 * q + 3 * r + 2) (by omega) (by omega)]
        exact ⟨hM.rs hq (by omega), hM.ra hq (by omega), hM.rb hq (by omega)⟩
    · rw [adR_off e] at hr
      have hr8 : r < 8 := by omega
      rw [adR_off e, adR_off e, adR_off e, hkp (59 + 24 * q + 3 * r) (by omega) (by omega), hkp (59 + 24 * q + 3 * r + 1) (by omega) (by omega), hkp (59 + 24 * q + 3 * r + 2) (by omega) (by omega)]
      exact ⟨hM.rs hq hr, hM.ra hq hr, hM.rb hq hr⟩
  · rw [o 1 (by omega)] at hd
    rw [hkp _ (by omega) (by omega), hkp _ (by omega) (by omega), hkp _ (by omega) (by omega), o 10 (by omega), o 11 (by omega), o 12 (by omega)]
    exact ⟨hM.dy hd, hM.kd hd, hM.ho hd⟩
  · rw [o 0 (by omega)] at hq
    rw [o 1 (by omega)] at hd
    rw [hkp _ (by omega) (by omega), o 13 (by omega)]; exact hM.dl hq hd
  · rw [o 1 (by omega)]
    exact hM.mx.keep (fun j hj => hkp j (by omega) (by omega))
theorem opnI_HM {S : BS} (hH : HM S) {p : Nat} (hp : p < 8) : opnI S p (S 1 0 0) = S := by
  funext a b c
  unfold opnI
  by_cases z : a = 12 ∧ c = 0 ∧ b < S 1 0 0 ∧ S 12 b 0 = p ∧ mayB S p b = false
  · obtain ⟨z1, z2, z3, z4, z5⟩ := z
    have := hH b z3 (by omega)
    rw [z4, z5] at this
    cases this
  · rw [if_neg z]
def EqX (L : List Nat) (M M' : Mm) : Prop := ∀ k j, k ∉ L → (k = 57 → j = 2 ∨ j = 31) → M' k j = M k j
theorem EqX.tr {L : List Nat} {M M1 M2 : Mm} (h1 : EqX L M M1) (h2 : EqX L M1 M2) : EqX L M M2 := fun k j hk hj => (h2 k j hk hj).trans (h1 k j hk hj)
theorem EqX.sub {L L' : List Nat} {M M' : Mm} (h : EqX L M M') (hs : ∀ k ∈ L, k ∈ L') : EqX L' M M' := fun k j hk hj => h k j (fun e => hk (hs k e)) hj
theorem EqX.ofQ {L : List Nat} {M M' : Mm} (h : EqQ L M M') : EqX L M M' := fun k j hk hj => h k j hk (fun e => by have := hj e; omega)
theorem EqX.ofO {L : List Nat} {M M' : Mm} (h : EqO L M M') : EqX L M M' := EqX.ofQ (EqQ.ofO h)
theorem EqX.ofC {L : List Nat} {M M' : Mm} (h : ∀ k j, ¬ (k = 57 ∧ (j = 19 ∨ j = 20 ∨ j = 21 ∨ j = 22)) → M' k j = M k j) : EqX L M M' := fun k j _ hj => h k j (fun z => by have := hj z.1; omega)
theorem FxM.ofX {L : List Nat} {M M' : Mm} (h : EqX L M M') (hL : ∀ k ∈ L, k ∈ LM) : FxM M M' := fun k j hk => by
  refine h k j (fun e => ?_) (fun e => ?_)
  · have := LM_in (hL k e)
    unfold okO at hk
    omega
  · unfold okO at hk
    omega
/-! rules in the reference, both -/
def RWm (M : Mm) (l : List RU) : Prop := ∀ j, j < l.length → RWm1 M j (l.getD j z3)
theorem RWm.app {M M' : Mm} {l : List RU} {x : RU} (h : RWm M l) (h1 : ∀ j, j < 3 * l.length → M' 70 j = M 70 j) (h2 : RWm1 M' l.length x) : RWm M' (l ++ [x]) := by
  intro j hj
  rw [List.length_append, List.length_singleton] at hj
  by_cases e : j = l.length
  · subst e; rw [getD_lastR]; exact h2
  · rw [getD_appR (by omega)]
    unfold RWm1
    rw [h1 _ (by omega), h1 _ (by omega), h1 _ (by omega)]
    exact h j (by omega)
theorem RWm.off {M M' : Mm} {l : List RU} (h : RWm M l) (h1 : M' 70 = M 70) : RWm M' l := by
  intro j hj
  unfold RWm1
  rw [h1]
  exact h j hj
theorem neg_3 : ∀ f, f < 151 → (nI 3 * (-100 - nI f) ≤ nI 0 ∧ -100 - nI f ≤ 0) := by decide +kernel
theorem TM.le {n : Nat} {t : Nat → Nat} {M : Mm} {f : Nat} (h : TM n t M (.inr f)) : f < 151 := by
  have := h.1.1
  have h2 : f ≤ n := h.2.1
  omega
theorem SM_rules (x : Int32) (M : Mm) (S : BS) (n : Nat) (t : Nat → Nat) (Q : Po) (hM : MK (M 58) S) (hC : MC M) (hH : HM S) (hT : TPm n t M) (h : ∀ M', FxM M M' → MK (M' 58) (f_rules x S n t).2.1 → M' 57 19 = (if (f_rules x S n t).2.2 = true then nI n else nI 0) → Q M' (some (.int (f_rules x S n t).1))) : Call 60 mM_rules [.ref 57, .int x] M Q := by
  have hw := hM.wf.np
  have hn150 := hT.1
  unfold f_rules at h
  refine Call_of (m := mM_rules) [some (.ref 57), some (.int x), none, none] rfl (fun G => Nat.le_of_ble_eq_true rfl) (fun G => rfl) ?_
  refine g_aload_n dX10_rules_0 rfl ?_
  refine g_iload_n dX10_rules_1 rfl ?_
  refine g_call1 dX10_rules_2 clM_isOne ml_M_72 gc10 rfl rfl (by decide) (Nat.le_of_ble_eq_true rfl) ?_
  refine SM_isOne hM x ?_
  refine g_if_ne_b 10 dX10_rules_5 (by decide) (fun c5 => ?_) (fun c5 => ?_)
  · obtain ⟨p, hp, rfl⟩ := inR_true c5
    rw [if_pos c5, v2n_nI (show p < 2 ^ 31 by omega)] at h
    have hr8 := hM.wf.nr (p := p) (by omega)
    refine g_aload_n dX10_rules_10 rfl ?_
    refine g_iload_n dX10_rules_11 rfl ?_
    refine g_call1 dX10_rules_12 clM_isHere ml_M_100 gc10 rfl rfl (by decide) (Nat.le_of_ble_eq_true rfl) ?_
    refine SM_isHere hM (by omega) ?_
    refine g_if_ne_b 21 dX10_rules_15 (by decide) (fun c15 => ?_) (fun c15 => ?_)
    · rw [if_pos c15] at h
      dsimp only at h
      refine g_aload_n dX10_rules_21 rfl ?_
      refine g_call0 dX10_rules_22 clM_opensTape ml_M_282 gc10 rfl rfl (by decide) (Nat.le_of_ble_eq_true rfl) ?_
      refine SM_opensTape hT (fun M1 hE1 hT1 => ?_)
      refine g_aload_n dX10_rules_25 rfl ?_
      refine g_iconst (nI 0) dX10_rules_26 ki_0 ?_
      refine g_puti (j := 24) dX10_rules_27 gc10 rfl (by decide) rfl (by decide) fl_M_270 rfl (tyX10_ok 24 (by decide)) (by first | rfl | exact nar_bI _) rfl ?_
      have hinv := fun (hx : okB (rsP n t (8 - S 6 p 0) (.inl 0) []).1 = true) => rsP_ok (n := n) (t := t) (r := 8 - S 6 p 0) (q := .inl 0) (l := []) (fun x hx => absurd hx (by simp)) hx
      have htail : ∀ q l M', EqQ [70] M M' → TM n t M' q → M' 57 24 = nI l.length → rsP n t (8 - S 6 p 0) (.inl 0) [] = (enS n q, l) → (okB (enS n q) = true → RWm M' l) → Go mM_rules 60 Q 55 [some (.ref 57), some (.int (nI p)), none, none] [] M' := by
        intro q l M' hE hT2 h24 hrs hR
        rw [hrs] at h hinv
        dsimp only at h
        refine g_aload_n dX10_rules_55 rfl ?_
        refine g_aload_n dX10_rules_56 rfl ?_
        refine g_geti (j := 24) dX10_rules_57 gc10 rfl (by decide) rfl (by decide) fl_M_270 ?_
        try simp (disch := omega) only [h24]
        refine g_call1 dX10_rules_60 clM_closes ml_M_288 gc10 rfl rfl (by decide) (Nat.le_of_ble_eq_true rfl) ?_
        refine SM_closes _ hT2 (fun M2 hE2 h19 => ?_)
        have hX2 : EqX [58, 70] M M2 := ((EqX.ofQ hE).sub (by decide)).tr (EqX.ofC hE2)
        have k58 : M2 58 = M 58 := by
          funext j
          rw [hE2 58 j (by omega), hE 58 j (by decide) (by omega)]
        have hM2 : MK (M2 58) S := by rw [k58]; exact hM
        by_cases hok : okB (enS n q) = true
        · obtain ⟨v1, v2, v3⟩ := hinv hok
          have v2 : l.length ≤ 8 - S 6 p 0 := by simpa using v2
          have v3 : 0 < l.length := by simpa using v3
          have hR2 : RWm M2 l := (hR hok).off (funext fun j => hE2 70 j (by omega))
          rw [if_pos hok] at h
          have hcl : clV (nI l.length) (enS n q) = nI l.length := by
            cases hq : enS n q with
            | inl a => rfl
            | inr f => rw [hq] at hok; cases hok
          rw [hcl] at h ⊢
          refine g_ist4_2 dX10_rules_63 (by decide) rfl ?_
          refine g_iconst (nI 0) dX10_rules_64 ki_0 ?_
          refine g_ist4_3 dX10_rules_65 (by decide) rfl ?_
          refine loop_up (P := fun i => ∀ M', EqO [58] M2 M' → (∀ j, M' 58 j = if 59 + 24 * p + 3 * S 6 p 0 ≤ j ∧ j < 59 + 24 * p + 3 * S 6 p 0 + i then M2 70 (j - (59 + 24 * p + 3 * S 6 p 0)) else M2 58 j) → Go mM_rules 60 Q 66 [some (.ref 57), some (.int (nI p)), some (.int (nI l.length)), some (.int (nI i))] [] M') (3 * l.length) ?_ 0 (Nat.zero_le _) M2 EqO.rf (fun j => by rw [if_neg (by omega)])
          intro i hi ih M3 hE3 h58
          have enr : M3 58 (51 + p) = nI (S 6 p 0) := by rw [h58, if_neg (by omega)]; exact hM2.nr hp
          refine g_iload_n dX10_rules_66 rfl ?_
          refine g_iconst (nI 3) dX10_rules_67 ki_3 ?_
          refine g_iload_n dX10_rules_68 rfl ?_
          first | refine g_imul_n dX10_rules_69 ?_ | refine g_imul dX10_rules_69 ?_
          refine g_icmp_ge_n 111 dX10_rules_70 (by decide) (by omega) (by omega) (fun c70 => ?_) (fun c70 => ?_)
          · refine g_aload_n dX10_rules_111 rfl ?_
            refine g_getr (j := 0) dX10_rules_112 gc10 rfl (by decide) rfl (by decide) fl_M_9 ?_
            refine g_bipush (nI 51) dX10_rules_115 kb_51 ?_
            refine g_iload_n dX10_rules_117 rfl ?_
            first | refine g_iadd_n dX10_rules_118 ?_ | refine g_iadd dX10_rules_118 ?_
            refine g_dup2 dX10_rules_119 rfl rfl ?_
            refine g_iald_n dX10_rules_120 (by first | rfl | assumption) (by first | decide | assumption) (by omega) (by omega) ?_
            try simp (disch := omega) only [enr]
            refine g_iload_n dX10_rules_121 rfl ?_
            refine g_if_le_n 129 dX10_rules_122 (by decide) (by omega) (fun c122 => ?_) (fun c122 => ?_)
            · exact absurd v3 (by omega)
            · have hMa : MK (upd (M3 58) (51 + p) (nI (S 6 p 0 + l.length))) (adR S p (gR l) l.length) := by
                refine MKadR hM2 hp (by omega) (fun j hj => gR_ok v1 hj) (upd_at _ _ _) (fun j hj => ?_) (fun j n1 n2 => ?_)
                · obtain ⟨y1, y2, y3⟩ := hR2 j hj
                  rw [upd_off (by omega), upd_off (by omega), upd_off (by omega), h58, h58, h58, if_pos (by omega), if_pos (by omega), if_pos (by omega), show 59 + 24 * p + 3 * (S 6 p 0 + j) - (59 + 24 * p + 3 * S 6 p 0) = 3 * j by omega, show 59 + 24 * p + 3 * (S 6 p 0 + j) + 1 - (59 + 24 * p + 3 * S 6 p 0) = 3 * j + 1 by omega, show 59 + 24 * p + 3 * (S 6 p 0 + j) + 2 - (59 + 24 * p + 3 * S 6 p 0) = 3 * j + 2 by omega]
                  exact ⟨y1, y2, y3⟩
                · rw [upd_off n1, h58, if_neg (by omega)]
              refine g_iload_n dX10_rules_125 rfl ?_
              refine g_goto 130 dX10_rules_126 (by decide) ?_
              first | refine g_iadd_n dX10_rules_130 ?_ | refine g_iadd dX10_rules_130 ?_
              refine g_iast_n dX10_rules_131 (by first | rfl | assumption) (by first | decide | assumption) (by omega) (by omega) ?_
              refine g_aload_n dX10_rules_132 rfl ?_
              refine g_iload_n dX10_rules_133 rfl ?_
              refine g_call1 dX10_rules_134 clM_opensBarred ml_M_109 gc10 rfl rfl (by decide) (Nat.le_of_ble_eq_true rfl) ?_
              refine SM_opensBarred (by rw [mset_same]; exact hMa) (by omega) (fun M4 hE4 hM4 => ?_)
              rw [show adR S p (gR l) l.length 1 0 0 = S 1 0 0 by rw [adR_oth (by omega)]] at hM4
              refine g_iload_n dX10_rules_137 rfl ?_
              refine g_ireturn dX10_rules_138 rfl (by first | rfl | exact nar_bI _) ?_
              refine h M4 (FxM.ofX (hX2.tr (((EqX.ofO hE3).sub (by decide)).tr (EqX.tr ((EqX.ofO (EqO.set (L := [58]) (by decide))).sub (by decide)) ((EqX.ofO hE4).sub (by decide))))) (by decide)) hM4 ?_
              rw [hE4 57 (by decide), mset_ne (by decide), hE3 57 (by decide), h19]
              rfl
          · refine g_aload_n dX10_rules_73 rfl ?_
            refine g_getr (j := 0) dX10_rules_74 gc10 rfl (by decide) rfl (by decide) fl_M_9 ?_
            refine g_bipush (nI 59) dX10_rules_77 kb_59 ?_
            refine g_bipush (nI 24) dX10_rules_79 kb_24 ?_
            refine g_iload_n dX10_rules_81 rfl ?_
            first | refine g_imul_n dX10_rules_82 ?_ | refine g_imul dX10_rules_82 ?_
            first | refine g_iadd_n dX10_rules_83 ?_ | refine g_iadd dX10_rules_83 ?_
            refine g_iconst (nI 3) dX10_rules_84 ki_3 ?_
            refine g_aload_n dX10_rules_85 rfl ?_
            refine g_getr (j := 0) dX10_rules_86 gc10 rfl (by decide) rfl (by decide) fl_M_9 ?_
            refine g_bipush (nI 51) dX10_rules_89 kb_51 ?_
            refine g_iload_n dX10_rules_91 rfl ?_
            first | refine g_iadd_n dX10_rules_92 ?_ | refine g_iadd dX10_rules_92 ?_
            refine g_iald_n dX10_rules_93 (by first | rfl | assumption) (by first | decide | assumption) (by omega) (by omega) ?_
            try simp (disch := omega) only [enr]
            first | refine g_imul_n dX10_rules_94 ?_ | refine g_imul dX10_rules_94 ?_
            first | refine g_iadd_n dX10_rules_95 ?_ | refine g_iadd dX10_rules_95 ?_
            refine g_iload_n dX10_rules_96 rfl ?_
            first | refine g_iadd_n dX10_rules_97 ?_ | refine g_iadd dX10_rules_97 ?_
            refine g_aload_n dX10_rules_98 rfl ?_
            refine g_getr (j := 23) dX10_rules_99 gc10 rfl (by decide) rfl (by decide) fl_M_47 ?_
            refine g_iload_n dX10_rules_102 rfl ?_
            refine g_iald_n dX10_rules_103 (by first | rfl | assumption) (by first | decide | assumption) (by omega) (by omega) ?_
            try simp (disch := omega) only [enr]
            refine g_iast_n dX10_rules_104 (by first | rfl | assumption) (by first | decide | assumption) (by omega) (by omega) ?_
            first | refine g_incn4_3 dX10_rules_105 ki_1 (by decide) rfl ?_ | refine g_incg4_3 (nI 1) dX10_rules_105 ki_1 (by decide) rfl ?_
            refine g_goto 66 dX10_rules_108 (by decide) ?_
            refine ih (by omega) _ (hE3.tr (EqO.set (by decide))) (fun j => ?_)
            have e70 : M3 70 i = M2 70 i := by rw [hE3 70 (by decide)]
            by_cases e : j = 59 + 24 * p + 3 * S 6 p 0 + i
            · subst e
              rw [mset_at, if_pos (by omega), e70, show 59 + 24 * p + 3 * S 6 p 0 + i - (59 + 24 * p + 3 * S 6 p 0) = i by omega]
            · rw [mset_off (by omega), h58]
              by_cases z : 59 + 24 * p + 3 * S 6 p 0 ≤ j ∧ j < 59 + 24 * p + 3 * S 6 p 0 + i
              · rw [if_pos z, if_pos (by omega)]
              · rw [if_neg z, if_neg (by omega)]
        · have hok := Bool.eq_false_iff.mpr hok
          rw [if_neg (by rw [hok]; decide)] at h
          have hT3 : ∃ f, enS n q = .inr f ∧ f < 151 := by
            cases q with
            | inl b =>
              have hb : b ≤ n := hT2.2.1
              simp only [enS] at hok ⊢
              split at hok
              · rename_i z; rw [if_pos z]; exact ⟨b, rfl, by omega⟩
              · cases hok
            | inr f => exact ⟨f, rfl, hT2.le⟩
          obtain ⟨f, hf, hf2⟩ := hT3
          have hneg := neg_3 f hf2
          rw [hf] at h ⊢
          rw [show clV (nI l.length) (.inr f) = -100 - nI f from rfl] at h ⊢
          generalize -100 - nI f = w0 at h hneg ⊢
          have enr : M2 58 (51 + p) = nI (S 6 p 0) := hM2.nr hp
          refine g_ist4_2 dX10_rules_63 (by decide) rfl ?_
          refine g_iconst (nI 0) dX10_rules_64 ki_0 ?_
          refine g_ist4_3 dX10_rules_65 (by decide) rfl ?_
          refine g_iload_n dX10_rules_66 rfl ?_
          refine g_iconst (nI 3) dX10_rules_67 ki_3 ?_
          refine g_iload_n dX10_rules_68 rfl ?_
          refine g_imul dX10_rules_69 ?_
          refine g_icmp_ge 111 dX10_rules_70 (by decide) (fun c70 => ?_) (fun c70 => ?_)
          · refine g_aload_n dX10_rules_111 rfl ?_
            refine g_getr (j := 0) dX10_rules_112 gc10 rfl (by decide) rfl (by decide) fl_M_9 ?_
            refine g_bipush (nI 51) dX10_rules_115 kb_51 ?_
            refine g_iload_n dX10_rules_117 rfl ?_
            first | refine g_iadd_n dX10_rules_118 ?_ | refine g_iadd dX10_rules_118 ?_
            refine g_dup2 dX10_rules_119 rfl rfl ?_
            refine g_iald_n dX10_rules_120 (by first | rfl | assumption) (by first | decide | assumption) (by omega) (by omega) ?_
            try simp (disch := omega) only [enr]
            refine g_iload_n dX10_rules_121 rfl ?_
            refine g_if_le 129 dX10_rules_122 (by decide) (fun c122 => ?_) (fun c122 => ?_)
            · refine g_iconst (nI 0) dX10_rules_129 ki_0 ?_
              first | refine g_iadd_n dX10_rules_130 ?_ | refine g_iadd dX10_rules_130 ?_
              refine g_iast_n dX10_rules_131 (by first | rfl | assumption) (by first | decide | assumption) (by omega) (by omega) ?_
              refine g_aload_n dX10_rules_132 rfl ?_
              refine g_iload_n dX10_rules_133 rfl ?_
              refine g_call1 dX10_rules_134 clM_opensBarred ml_M_109 gc10 rfl rfl (by decide) (Nat.le_of_ble_eq_true rfl) ?_
              have hMs : mset M2 58 (51 + p) (nI (S 6 p 0 + 0)) 58 = M2 58 := by
                rw [mset_same, Nat.add_zero, ← enr, upd_self]
              refine SM_opensBarred (by rw [hMs]; exact hM2) (by omega) (fun M4 hE4 hM4 => ?_)
              rw [opnI_HM hH (by omega)] at hM4
              refine g_iload_n dX10_rules_137 rfl ?_
              refine g_ireturn dX10_rules_138 rfl (by first | rfl | exact nar_bI _) ?_
              refine h M4 (FxM.ofX (hX2.tr (EqX.tr ((EqX.ofO (EqO.set (L := [58]) (by decide))).sub (by decide)) ((EqX.ofO hE4).sub (by decide)))) (by decide)) hM4 ?_
              rw [hE4 57 (by decide), mset_ne (by decide), h19]
              rfl
            · exact absurd hneg.2 c122
          · exact absurd hneg.1 c70
      suffices hloop : ∀ r q l M', l.length + r = 8 - S 6 p 0 → EqQ [70] M M' → TM n t M' q → M' 57 24 = nI l.length → RWm M' l → rsP n t (8 - S 6 p 0) (.inl 0) [] = rsP n t r q l → Go mM_rules 60 Q 30 [some (.ref 57), some (.int (nI p)), none, none] [] M' by
        exact hloop _ _ [] _ (by simp) ((hE1.q.sub (by simp)).tr (EqQ.set57 (by omega))) (hT1.off (mset_ne (by decide)) (fun j hj => mset_off (by omega))) (mset_at _ _ _ _) (fun j hj => absurd hj (by simp)) rfl
      intro r
      clear h
      induction r with
      | zero =>
        intro q l M' hl hE hT2 h24 hR hq
        rw [rsP] at hq
        have enr : M' 58 (51 + p) = nI (S 6 p 0) := by rw [hE 58 _ (by decide) (by omega)]; exact hM.nr hp
        refine g_aload_n dX10_rules_30 rfl ?_
        refine g_bipush (nI 8) dX10_rules_31 kb_8 ?_
        refine g_aload_n dX10_rules_33 rfl ?_
        refine g_getr (j := 0) dX10_rules_34 gc10 rfl (by decide) rfl (by decide) fl_M_9 ?_
        refine g_bipush (nI 51) dX10_rules_37 kb_51 ?_
        refine g_iload_n dX10_rules_39 rfl ?_
        first | refine g_iadd_n dX10_rules_40 ?_ | refine g_iadd dX10_rules_40 ?_
        refine g_iald_n dX10_rules_41 (by first | rfl | assumption) (by first | decide | assumption) (by omega) (by omega) ?_
        try simp (disch := omega) only [enr]
        first | refine g_isub_n dX10_rules_42 (by omega) ?_ | refine g_isub dX10_rules_42 ?_
        refine g_call1 dX10_rules_43 clM_readsRule ml_M_285 gc10 rfl rfl (by decide) (Nat.le_of_ble_eq_true rfl) ?_
        refine SM_readsRuleF (by omega) (by omega) hT2 h24 (fun M2 hE2 hT3 => ?_)
        refine g_aload_n dX10_rules_46 rfl ?_
        refine g_bipush (nI 59) dX10_rules_47 kb_59 ?_
        refine g_call1 dX10_rules_49 clM_takes ml_M_257 gc10 rfl rfl (by decide) (Nat.le_of_ble_eq_true rfl) ?_
        refine SM_takes (c := 59) (by omega) hT3 (fun M3 hE3 hT4 => ?_)
        rw [tkS_f tk_fl] at hT4
        rw [tk_fl]
        refine g_if_ne_ff 30 dX10_rules_52 (by decide) ?_
        exact htail (flA q) l M3 (hE.tr ((hE2.q.sub (by simp)).tr (hE3.q.sub (by simp)))) hT4 (by rw [hE3 57 24 (by omega), hE2 57 24 (by omega)]; exact h24) (by rw [en_fl]; exact hq) (fun z => by rw [en_fl, ok_fl] at z; cases z)
      | succ r ih =>
        intro q l M' hl hE hT2 h24 hR hq
        rw [rsP] at hq
        have enr : M' 58 (51 + p) = nI (S 6 p 0) := by rw [hE 58 _ (by decide) (by omega)]; exact hM.nr hp
        have hC2 : MC M' := ⟨fun j hj => by rw [hE 60 _ (by decide) (by omega)]; exact hC.1 j hj, fun j hj => by rw [hE 61 _ (by decide) (by omega)]; exact hC.2 j hj⟩
        refine g_aload_n dX10_rules_30 rfl ?_
        refine g_bipush (nI 8) dX10_rules_31 kb_8 ?_
        refine g_aload_n dX10_rules_33 rfl ?_
        refine g_getr (j := 0) dX10_rules_34 gc10 rfl (by decide) rfl (by decide) fl_M_9 ?_
        refine g_bipush (nI 51) dX10_rules_37 kb_51 ?_
        refine g_iload_n dX10_rules_39 rfl ?_
        first | refine g_iadd_n dX10_rules_40 ?_ | refine g_iadd dX10_rules_40 ?_
        refine g_iald_n dX10_rules_41 (by first | rfl | assumption) (by first | decide | assumption) (by omega) (by omega) ?_
        try simp (disch := omega) only [enr]
        first | refine g_isub_n dX10_rules_42 (by omega) ?_ | refine g_isub dX10_rules_42 ?_
        refine g_call1 dX10_rules_43 clM_readsRule ml_M_285 gc10 rfl rfl (by decide) (Nat.le_of_ble_eq_true rfl) ?_
        refine SM_readsRule (i := l.length) (by omega) (by omega) hT2 hC2 h24 (fun M2 hE2 hT3 h24' hlo hv2 => ?_)
        refine g_aload_n dX10_rules_46 rfl ?_
        refine g_bipush (nI 59) dX10_rules_47 kb_59 ?_
        refine g_call1 dX10_rules_49 clM_takes ml_M_257 gc10 rfl rfl (by decide) (Nat.le_of_ble_eq_true rfl) ?_
        refine SM_takes (c := 59) (by omega) hT3 (fun M3 hE3 hT4 => ?_)
        have hE4 : EqQ [70] M M3 := hE.tr (hE2.tr (hE3.q.sub (by simp)))
        have e24 : M3 57 24 = nI (l ++ [(ruP n t q).2]).length := by
          rw [hE3 57 24 (by omega), h24']
          simp
        have hR4 : okB (ruP n t q).1 = true → RWm M3 (l ++ [(ruP n t q).2]) := fun z => (hR.app hlo (hv2 z)).off (hE3.row (by decide))
        by_cases c : tk n t 59 (ruP n t q).1 = true
        · rw [if_pos c] at hq
          rw [c]
          refine g_if_ne_tt 30 dX10_rules_52 (by decide) ?_
          exact ih _ _ M3 (by simp; omega) hE4 hT4 e24 (hR4 (tk_ok c)) hq
        · rw [if_neg c] at hq
          have c := Bool.eq_false_iff.mpr c
          rw [tkS_f c] at hT4
          rw [c]
          refine g_if_ne_ff 30 dX10_rules_52 (by decide) ?_
          exact htail _ _ M3 hE4 hT4 e24 hq (fun z => hR4 (ok_en z).1)
    · rw [if_neg (by rw [c15]; decide)] at h
      refine g_bipush ((-3)) dX10_rules_18 kb_m3 ?_
      refine g_ireturn dX10_rules_20 rfl (by first | rfl | exact nar_bI _) ?_
      exact h M FxM.rf hM hT.2.2.1
  · rw [if_neg (by rw [c5]; decide)] at h
    refine g_iconst ((-1)) dX10_rules_8 ki_m1 ?_
    refine g_ireturn dX10_rules_9 rfl (by first | rfl | exact nar_bI _) ?_
    exact h M FxM.rf hM hT.2.2.1
theorem both_rules (x : Int32) : Both mF_rules mM_rules [.int x] := both_text (f_rules x) (fun M S n t Q => SF_rules x M S n t Q) (fun M S n t Q => SM_rules x M S n t Q) (fun S n t hn ht hW hH => by
  have hw := hW.np
  unfold f_rules
  by_cases hx : inR x (S 0 0 0) = true
  · obtain ⟨p, hp, rfl⟩ := inR_true hx
    rw [if_pos hx, v2n_nI (by omega)]
    split
    · dsimp only
      split
      · rw [show S 1 0 0 = adR S p (gR (rsP n t (8 - S 6 p 0) (.inl 0) []).2) (rsP n t (8 - S 6 p 0) (.inl 0) []).2.length 1 0 0 from by rw [adR_oth (by omega)]]
        refine opnI_HO (fun d hd h8 hne => ?_)
        rw [adR_oth (by omega)] at hd
        rw [adR_oth (a := 12) (by omega)] at h8 hne ⊢
        rw [may_cong (S := S) (by rw [adR_oth (by omega)]) (adR_off hne) (fun r => adR_off hne) (fun r => adR_off hne) (fun r => adR_off hne) (by rw [adR_oth (by omega)]) (by rw [adR_oth (by omega)])]
        exact hH d hd h8
      · exact hH
    · exact hH
  · rw [if_neg hx]; exact hH)
/-! calendar: pure, the class -/
def caP (n : Nat) (t : Nat → Nat) (q : TS) : TS × RU := (kdS n t (nuS n t 0 365 q), (nuV n t q, kdV n t (nuS n t 0 365 q), 0))
def caOK (x : RU) : Prop := x.1 ≤ 365 ∧ x.2.1 < 4
theorem caP_ok {n : Nat} {t : Nat → Nat} {q : TS} (h : okB (caP n t q).1 = true) : okB q = true ∧ caOK (caP n t q).2 := by
  unfold caP at h ⊢
  obtain ⟨h1, h2⟩ := ok_kd h
  obtain ⟨h3, h4, h5⟩ := ok_nu h1
  exact ⟨h3, h5, h2⟩
def csP (n : Nat) (t : Nat → Nat) : Nat → TS → List RU → TS × List RU
  | 0, q, l => (flA q, l)
  | r + 1, q, l => if tk n t 59 (caP n t q).1 = true then csP n t r (tkS n t 59 (caP n t q).1) (l ++ [(caP n t q).2]) else (enS n (caP n t q).1, l ++ [(caP n t q).2])
theorem csP_ok {n : Nat} {t : Nat → Nat} : ∀ {r : Nat} {q : TS} {l : List RU}, (∀ x ∈ l, caOK x) → okB (csP n t r q l).1 = true → (∀ x ∈ (csP n t r q l).2, caOK x) ∧ (csP n t r q l).2.length ≤ l.length + r ∧ l.length < (csP n t r q l).2.length
  | 0, q, l, hl, h => by rw [csP, ok_fl] at h; cases h
  | r + 1, q, l, hl, h => by
    have hx : ∀ {y : RU}, caOK y → ∀ x ∈ l ++ [y], caOK x := fun hy x hx => by
      rcases List.mem_append.mp hx with z | z
      · exact hl x z
      · rw [List.mem_singleton] at z; rw [z]; exact hy
    rw [csP] at h ⊢
    by_cases c : tk n t 59 (caP n t q).1 = true
    · rw [if_pos c] at h ⊢
      have h1 := csP_ok (hx (caP_ok (tk_ok c)).2) h
      rw [List.length_append, List.length_singleton] at h1
      exact ⟨h1.1, by omega, by omega⟩
    · rw [if_neg c] at h ⊢
      have h2 := caP_ok (ok_en h).1
      refine ⟨hx h2.2, ?_, ?_⟩
      · show (l ++ [(caP n t q).2]).length ≤ _
        rw [List.length_append, List.length_singleton]; omega
      · show _ < (l ++ [(caP n t q).2]).length
        rw [List.length_append, List.length_singleton]; omega
theorem gR_ca {l : List RU} (h : ∀ x ∈ l, caOK x) {j : Nat} (hj : j < l.length) : caOK (gR l j) := by
  refine h _ ?_
  show l.getD j z3 ∈ l
  rw [List.getD_eq_getElem?_getD, List.getElem?_eq_getElem hj]
  exact List.getElem_mem hj
def CWl (M : Mm) (l : List RU) : Prop := ∀ j, j < l.length → M 47 j = nI (gR l j).1 ∧ M 48 j = nI (gR l j).2.1
theorem CWl.app {M M' : Mm} {l : List RU} {x : RU} (h : CWl M l) (h1 : ∀ j, j ≠ l.length → M' 47 j = M 47 j ∧ M' 48 j = M 48 j) (h2 : M' 47 l.length = nI x.1 ∧ M' 48 l.length = nI x.2.1) : CWl M' (l ++ [x]) := by
  intro j hj
  rw [List.length_append, List.length_singleton] at hj
  by_cases e : j = l.length
  · subst e; rw [show gR (l ++ [x]) l.length = x from getD_lastR]; exact h2
  · rw [show gR (l ++ [x]) j = gR l j from getD_appR (by omega)]
    obtain ⟨k1, k2⟩ := h1 j e
    rw [k1, k2]
    exact h j (by omega)
theorem CWl.off {M M' : Mm} {l : List RU} (h : CWl M l) (h1 : M' 47 = M 47) (h2 : M' 48 = M 48) : CWl M' l := by
  intro j hj
  rw [h1, h2]
  exact h j hj
theorem SX_readCalendar {d : Nat} {n : Nat} {t : Nat → Nat} {M : Mm} {S : BS} {Q : Po} (hB : BK M S) (hT : TPc n t M) (h : ∀ M', EqO [41, 43, 47, 48] M M' → TC n t M' (csP n t (24 - S 1 0 0) (.inl 0) []).1 → (okB (csP n t (24 - S 1 0 0) (.inl 0) []).1 = true → M' 43 8 = nI (csP n t (24 - S 1 0 0) (.inl 0) []).2.length ∧ CWl M' (csP n t (24 - S 1 0 0) (.inl 0) []).2) → Q M' none) : Call (d + 5) mX_readCalendar [.ref 43] M Q := by
  have hw := hB.wf.nd
  refine Call_of (m := mX_readCalendar) [some (.ref 43), none, none] rfl (fun G => Nat.le_of_ble_eq_true rfl) (fun G => rfl) ?_
  refine g_bipush (nI 24) dX8_readCalendar_0 kb_24 ?_
  refine g_aload_n dX8_readCalendar_2 rfl ?_
  refine g_getr (j := 0) dX8_readCalendar_3 gc8 rfl (by decide) rfl (by decide) fl_X_30 ?_
  refine g_geti (j := 1) dX8_readCalendar_6 gc0 rfl (by decide) rfl (by decide) fl_X_89 ?_
  try simp (disch := omega) only [hB.nd]
  first | refine g_isub_n dX8_readCalendar_9 (by omega) ?_ | refine g_isub dX8_readCalendar_9 ?_
  refine g_ist3_1 dX8_readCalendar_10 (by decide) rfl ?_
  refine g_aload_n dX8_readCalendar_11 rfl ?_
  refine g_getr (j := 1) dX8_readCalendar_12 gc8 rfl (by decide) rfl (by decide) fl_X_34 ?_
  refine g_call0 dX8_readCalendar_15 clT_start ml_X_48 gc7 rfl rfl (by decide) (Nat.le_of_ble_eq_true rfl) ?_
  refine ST_start hT (fun M0 hE0 hT0 => ?_)
  refine g_iconst (nI 0) dX8_readCalendar_18 ki_0 ?_
  refine g_ist3_2 dX8_readCalendar_19 (by decide) rfl ?_
  suffices hloop : ∀ r q l M', l.length + r = 24 - S 1 0 0 → EqO [41, 43, 47, 48] M M' → TC n t M' q → okB q = true → CWl M' l → csP n t (24 - S 1 0 0) (.inl 0) [] = csP n t r q l → Go mX_readCalendar (d + 5) Q 20 [some (.ref 43), some (.int (nI (24 - S 1 0 0))), some (.int (nI l.length))] [] M' by
    exact hloop _ _ [] M0 (by simp) (hE0.sub (by decide)) hT0 rfl (fun j hj => absurd hj (by simp)) rfl
  intro r
  induction r with
  | zero =>
    intro q l M' hl hE hT1 hok hR hq
    rw [hq, csP] at h
    refine g_iload_n dX8_readCalendar_20 rfl ?_
    refine g_iload_n dX8_readCalendar_21 rfl ?_
    refine g_icmp_ge_n 95 dX8_readCalendar_22 (by decide) (by omega) (by omega) (fun c22 => ?_) (fun c22 => ?_)
    · skip
      refine g_aload_n dX8_readCalendar_95 rfl ?_
      refine g_getr (j := 1) dX8_readCalendar_96 gc8 rfl (by decide) rfl (by decide) fl_X_34 ?_
      refine g_aload_n dX8_readCalendar_99 rfl ?_
      refine g_getr (j := 1) dX8_readCalendar_100 gc8 rfl (by decide) rfl (by decide) fl_X_34 ?_
      refine g_call0 dX8_readCalendar_103 clT_at ml_X_64 gc7 rfl rfl (by decide) (Nat.le_of_ble_eq_true rfl) ?_
      refine ST_at ?_
      refine g_call1 dX8_readCalendar_106 clT_fail ml_X_68 gc7 rfl rfl (by decide) (Nat.le_of_ble_eq_true rfl) ?_
      refine ST_failA hT1 rfl (fun M2 hE2 hT2 => ?_)
      refine g_return dX8_readCalendar_109 rfl ?_
      exact h M2 (hE.tr (hE2.sub (by decide))) hT2 (fun z => by rw [ok_fl] at z; cases z)
    · exact absurd hl (by omega)
  | succ r ih =>
    intro q l M' hl hE hT1 hok hR hq
    rw [csP] at hq
    refine g_iload_n dX8_readCalendar_20 rfl ?_
    refine g_iload_n dX8_readCalendar_21 rfl ?_
    refine g_icmp_ge_n 95 dX8_readCalendar_22 (by decide) (by omega) (by omega) (fun c22 => ?_) (fun c22 => ?_)
    · exact absurd hl (by omega)
    · refine g_iload_n dX8_readCalendar_25 rfl ?_
      refine g_bipush (nI 24) dX8_readCalendar_26 kb_24 ?_
      refine g_icmp_ge_n 95 dX8_readCalendar_28 (by decide) (by omega) (by omega) (fun c28 => ?_) (fun c28 => ?_)
      · exact absurd hl (by omega)
      · refine g_aload_n dX8_readCalendar_31 rfl ?_
        refine g_getr (j := 5) dX8_readCalendar_32 gc8 rfl (by decide) rfl (by decide) fl_X_21 ?_
        refine g_iload_n dX8_readCalendar_35 rfl ?_
        refine g_aload_n dX8_readCalendar_36 rfl ?_
        refine g_getr (j := 1) dX8_readCalendar_37 gc8 rfl (by decide) rfl (by decide) fl_X_34 ?_
        refine g_iconst (nI 0) dX8_readCalendar_40 ki_0 ?_
        refine g_sipush (nI 365) dX8_readCalendar_41 ks_365 ?_
        refine g_call2 dX8_readCalendar_44 clT_takeNumber ml_X_75 gc7 rfl rfl (by decide) (Nat.le_of_ble_eq_true rfl) ?_
        refine ST_takeNumber (lo := 0) (hi := 365) hT1 (fun _ => ⟨rfl, rfl⟩) (by omega) (by omega) (fun M2 v1 hE2 hT2 hv1 => ?_)
        refine g_iast_n dX8_readCalendar_47 (by first | rfl | assumption) (by first | decide | assumption) (by omega) (by omega) ?_
        refine g_aload_n dX8_readCalendar_48 rfl ?_
        refine g_getr (j := 6) dX8_readCalendar_49 gc8 rfl (by decide) rfl (by decide) fl_X_24 ?_
        refine g_iload_n dX8_readCalendar_52 rfl ?_
        refine g_aload_n dX8_readCalendar_53 rfl ?_
        refine g_getr (j := 1) dX8_readCalendar_54 gc8 rfl (by decide) rfl (by decide) fl_X_34 ?_
        refine g_call0 dX8_readCalendar_57 clT_takeKind ml_X_82 gc7 rfl rfl (by decide) (Nat.le_of_ble_eq_true rfl) ?_
        refine ST_takeKind (hT2.off (mset_ne (by decide)) (mset_ne (by decide))) (fun M3 hE3 hT3 => ?_)
        refine g_iast_n dX8_readCalendar_60 (by first | rfl | assumption) (by first | decide | assumption) (by omega) (by omega) ?_
        refine g_aload_n dX8_readCalendar_61 rfl ?_
        refine g_iload_n dX8_readCalendar_62 rfl ?_
        refine g_iconst (nI 1) dX8_readCalendar_63 ki_1 ?_
        first | refine g_iadd_n dX8_readCalendar_64 ?_ | refine g_iadd dX8_readCalendar_64 ?_
        refine g_puti (j := 8) dX8_readCalendar_65 gc8 rfl (by decide) rfl (by decide) fl_X_38 rfl (tyX8_ok 8 (by decide)) (by first | rfl | exact nar_bI _) rfl ?_
        refine g_aload_n dX8_readCalendar_68 rfl ?_
        refine g_getr (j := 1) dX8_readCalendar_69 gc8 rfl (by decide) rfl (by decide) fl_X_34 ?_
        refine g_call0 dX8_readCalendar_72 clT_isFaulty ml_X_57 gc7 rfl rfl (by decide) (Nat.le_of_ble_eq_true rfl) ?_
        generalize hM5 : mset (mset M3 48 l.length (kv (kdV n t (nuS n t 0 365 q)))) 43 8 (nI (l.length + 1)) = M5
        have hT5 : TC n t M5 (caP n t q).1 := by
          rw [← hM5]
          exact (hT3.off (mset_ne (by decide)) (mset_ne (by decide))).off (mset_ne (by decide)) (mset_ne (by decide))
        have hE5 : EqO [41, 43, 47, 48] M M5 := by
          rw [← hM5]
          exact (((hE.tr (hE2.sub (by decide))).tr (EqO.set (by decide))).tr (hE3.sub (by decide))).tr ((EqO.set (by decide)).tr (EqO.set (by decide)))
        have e43 : M5 43 8 = nI (l.length + 1) := by rw [← hM5, mset_at]
        have e47 : M5 47 = upd (M' 47) l.length v1 := by rw [← hM5, mset_ne (by decide), mset_ne (by decide), hE3 47 (by decide), mset_same, hE2 47 (by decide)]
        have e48 : M5 48 = upd (M' 48) l.length (kv (kdV n t (nuS n t 0 365 q))) := by rw [← hM5, mset_ne (by decide), mset_same, hE3 48 (by decide), mset_ne (by decide), hE2 48 (by decide)]
        clear hM5
        refine ST_isFaulty hT5 ?_
        by_cases hok2 : okB (caP n t q).1 = true
        · have hkd : kdV n t (nuS n t 0 365 q) < 4 := (caP_ok hok2).2.2
          have hR2 : CWl M5 (l ++ [(caP n t q).2]) := by
            refine hR.app (fun j hj => ?_) ?_
            · rw [e47, e48, upd_off hj, upd_off hj]; exact ⟨rfl, rfl⟩
            · rw [e47, e48, upd_at, upd_at]
              refine ⟨hv1 hok, ?_⟩
              unfold kv
              rw [if_neg (by omega)]
              rfl
          rw [hok2]
          refine g_if_ne_ff 88 dX8_readCalendar_75 (by decide) ?_
          refine g_aload_n dX8_readCalendar_78 rfl ?_
          refine g_getr (j := 1) dX8_readCalendar_79 gc8 rfl (by decide) rfl (by decide) fl_X_34 ?_
          refine g_call0 dX8_readCalendar_82 clT_takesPart ml_X_61 gc7 rfl rfl (by decide) (Nat.le_of_ble_eq_true rfl) ?_
          refine ST_takesPart hT5 (fun M4 hE4 hT4 => ?_)
          have hR4 : CWl M4 (l ++ [(caP n t q).2]) := hR2.off (hE4 47 (by decide)) (hE4 48 (by decide))
          by_cases c : tk n t 59 (caP n t q).1 = true
          · rw [if_pos c] at hq hT4
            rw [c]
            refine g_if_ne_tt 89 dX8_readCalendar_85 (by decide) ?_
            first | refine g_incn3_2 dX8_readCalendar_89 ki_1 (by decide) rfl ?_ | refine g_incg3_2 (nI 1) dX8_readCalendar_89 ki_1 (by decide) rfl ?_
            refine g_goto 20 dX8_readCalendar_92 (by decide) ?_
            rw [show l.length + 1 = (l ++ [(caP n t q).2]).length by simp]
            exact ih _ _ M4 (by simp; omega) (hE5.tr (hE4.sub (by decide))) hT4 (by rw [ok_tk]; exact hok2) hR4 hq
          · rw [if_neg c] at hq hT4
            rw [hq] at h
            rw [Bool.eq_false_iff.mpr c]
            refine g_if_ne_ff 89 dX8_readCalendar_85 (by decide) ?_
            refine g_return dX8_readCalendar_88 rfl ?_
            refine h M4 (hE5.tr (hE4.sub (by decide))) hT4 (fun _ => ⟨?_, hR4⟩)
            rw [hE4 43 (by decide), e43]
            simp
        · have hok2 := Bool.eq_false_iff.mpr hok2
          rw [if_neg (by rw [tk_no hok2]; decide)] at hq
          rw [hq, en_no hok2] at h
          rw [hok2]
          refine g_if_ne_tt 88 dX8_readCalendar_75 (by decide) ?_
          refine g_return dX8_readCalendar_88 rfl ?_
          exact h _ hE5 hT5 (fun z => by rw [hok2] at z; cases z)
def adC (S : BS) (l : List RU) : Nat → BS
  | 0 => S
  | k + 1 => addD (adC S l k) (gR l k).1 (gR l k).2.1
theorem adC_nd (S : BS) (l : List RU) : ∀ k, adC S l k 1 0 0 = S 1 0 0 + k
  | 0 => rfl
  | k + 1 => by rw [adC, addD_1, adC_nd S l k]; rfl
theorem adC_HM {S : BS} (hH : HM S) (l : List RU) : ∀ k, HM (adC S l k)
  | 0 => hH
  | k + 1 => by rw [adC]; exact addD_HO (adC_HM hH l k)
theorem SX_addDuties {d : Nat} {M : Mm} {S : BS} {Q : Po} {l : List RU} (hB : BK M S) (hl : S 1 0 0 + l.length ≤ 24) (hv : ∀ x ∈ l, caOK x) (hc : M 43 8 = nI l.length) (hR : CWl M l) (h : ∀ M', EqO [1, 2, 10, 11, 12] M M' → BK M' (adC S l l.length) → Q M' (some (.int (nI l.length)))) : Call (d + 5) mX_addDuties [.ref 43] M Q := by
  refine Call_of (m := mX_addDuties) [some (.ref 43), none] rfl (fun G => Nat.le_of_ble_eq_true rfl) (fun G => rfl) ?_
  refine g_iconst (nI 0) dX8_addDuties_0 ki_0 ?_
  refine g_ist2_1 dX8_addDuties_1 (by decide) rfl ?_
  refine loop_up (P := fun i => ∀ M', EqO [1, 2, 10, 11, 12] M M' → BK M' (adC S l i) → Go mX_addDuties (d + 5) Q 2 [some (.ref 43), some (.int (nI i))] [] M') l.length ?_ 0 (Nat.zero_le _) M EqO.rf hB
  intro i hi ih M' hE hB'
  have hc' : M' 43 8 = nI l.length := by rw [hE 43 (by decide)]; exact hc
  refine g_iload_n dX8_addDuties_2 rfl ?_
  refine g_aload_n dX8_addDuties_3 rfl ?_
  refine g_geti (j := 8) dX8_addDuties_4 gc8 rfl (by decide) rfl (by decide) fl_X_38 ?_
  try simp (disch := omega) only [hc']
  refine g_icmp_ge_n 42 dX8_addDuties_7 (by decide) (by omega) (by omega) (fun c7 => ?_) (fun c7 => ?_)
  · refine g_aload_n dX8_addDuties_42 rfl ?_
    refine g_geti (j := 8) dX8_addDuties_43 gc8 rfl (by decide) rfl (by decide) fl_X_38 ?_
    try simp (disch := omega) only [hc']
    refine g_ireturn dX8_addDuties_46 rfl (by first | rfl | exact nar_bI _) ?_
    rw [show i = l.length by omega] at hB'
    exact h M' hE hB'
  · refine g_iload_n dX8_addDuties_10 rfl ?_
    refine g_bipush (nI 24) dX8_addDuties_11 kb_24 ?_
    refine g_icmp_ge_n 42 dX8_addDuties_13 (by decide) (by omega) (by omega) (fun c13 => ?_) (fun c13 => ?_)
    · exact absurd hl (by omega)
    · obtain ⟨r1, r2⟩ := hR i (by omega)
      have hok := gR_ca hv (j := i) (by omega)
      have s1 : M' 47 i = nI (gR l i).1 := by rw [hE 47 (by decide)]; exact r1
      have s2 : M' 48 i = nI (gR l i).2.1 := by rw [hE 48 (by decide)]; exact r2
      refine g_aload_n dX8_addDuties_16 rfl ?_
      refine g_getr (j := 0) dX8_addDuties_17 gc8 rfl (by decide) rfl (by decide) fl_X_30 ?_
      refine g_aload_n dX8_addDuties_20 rfl ?_
      refine g_getr (j := 5) dX8_addDuties_21 gc8 rfl (by decide) rfl (by decide) fl_X_21 ?_
      refine g_iload_n dX8_addDuties_24 rfl ?_
      refine g_iald_n dX8_addDuties_25 (by first | rfl | assumption) (by first | decide | assumption) (by omega) (by omega) ?_
      try simp (disch := omega) only [s1, s2]
      refine g_aload_n dX8_addDuties_26 rfl ?_
      refine g_getr (j := 6) dX8_addDuties_27 gc8 rfl (by decide) rfl (by decide) fl_X_24 ?_
      refine g_iload_n dX8_addDuties_30 rfl ?_
      refine g_iald_n dX8_addDuties_31 (by first | rfl | assumption) (by first | decide | assumption) (by omega) (by omega) ?_
      try simp (disch := omega) only [s1, s2]
      refine g_call2 dX8_addDuties_32 clB_addDuty ml_X_92 gc0 rfl rfl (by decide) (Nat.le_of_ble_eq_true rfl) ?_
      refine SB_addDuty hB' hok.1 hok.2 (by rw [adC_nd]; omega) (fun M2 hE2 hB2 => ?_)
      refine g_pop dX8_addDuties_35 rfl ?_
      first | refine g_incn2_1 dX8_addDuties_36 ki_1 (by decide) rfl ?_ | refine g_incg2_1 (nI 1) dX8_addDuties_36 ki_1 (by decide) rfl ?_
      refine g_goto 2 dX8_addDuties_39 (by decide) ?_
      exact ih (by omega) M2 (hE.tr hE2) hB2
def f_calendar (S : BS) (n : Nat) (t : Nat → Nat) : Int32 × BS × Bool := (clV (nI (csP n t (24 - S 1 0 0) (.inl 0) []).2.length) (csP n t (24 - S 1 0 0) (.inl 0) []).1, if okB (csP n t (24 - S 1 0 0) (.inl 0) []).1 = true then adC S (csP n t (24 - S 1 0 0) (.inl 0) []).2 (csP n t (24 - S 1 0 0) (.inl 0) []).2.length else S, false)
theorem SF_calendar (M : Mm) (S : BS) (n : Nat) (t : Nat → Nat) (Q : Po) (hB : BK M S) (hH : HM S) (hT : TPc n t M) (h : ∀ M', FxC M M' → BK M' (f_calendar S n t).2.1 → M' 41 1 = (if (f_calendar S n t).2.2 = true then nI n else nI 0) → Q M' (some (.int (f_calendar S n t).1))) : Call 60 mF_calendar [.ref 0] M Q := by
  have hw := hB.wf.nd
  unfold f_calendar at h
  dsimp only at h
  refine Call_of (m := mF_calendar) [some (.ref 0), none] rfl (fun G => Nat.le_of_ble_eq_true rfl) (fun G => rfl) ?_
  refine g_aload_n dX9_calendar_0 rfl ?_
  refine g_getr (j := 7) dX9_calendar_1 gc9 rfl (by decide) rfl (by decide) fl_F_58 ?_
  refine g_call0 dX9_calendar_4 clX_readCalendar ml_F_170 gc8 rfl rfl (by decide) (Nat.le_of_ble_eq_true rfl) ?_
  refine SX_readCalendar hB hT (fun M1 hE1 hT1 hv1 => ?_)
  have hB1 : BK M1 S := hB.eqO hE1 (by decide)
  generalize hrs : csP n t (24 - S 1 0 0) (.inl 0) [] = r at h hT1 hv1
  refine g_aload_n dX9_calendar_7 rfl ?_
  refine g_getr (j := 6) dX9_calendar_8 gc9 rfl (by decide) rfl (by decide) fl_F_49 ?_
  refine g_call0 dX9_calendar_11 clT_isFaulty ml_F_145 gc7 rfl rfl (by decide) (Nat.le_of_ble_eq_true rfl) ?_
  refine ST_isFaulty hT1 ?_
  by_cases hok : okB r.1 = true
  · obtain ⟨v1, v2, v3⟩ := csP_ok (n := n) (t := t) (r := 24 - S 1 0 0) (q := .inl 0) (l := []) (fun x hx => absurd hx (by simp)) (by rw [hrs]; exact hok)
    rw [hrs] at v1 v2
    obtain ⟨u1, u2⟩ := hv1 hok
    rw [if_pos hok] at h
    rw [hok]
    refine g_if_eq_ff 22 dX9_calendar_14 (by decide) ?_
    refine g_aload_n dX9_calendar_22 rfl ?_
    refine g_getr (j := 7) dX9_calendar_23 gc9 rfl (by decide) rfl (by decide) fl_F_58 ?_
    refine g_call0 dX9_calendar_26 clX_addDuties ml_F_173 gc8 rfl rfl (by decide) (Nat.le_of_ble_eq_true rfl) ?_
    refine SX_addDuties hB1 (by simp at v2; omega) v1 u1 u2 (fun M2 hE2 hB2 => ?_)
    refine g_ist2_1 dX9_calendar_29 (by decide) rfl ?_
    refine g_aload_n dX9_calendar_30 rfl ?_
    refine g_getr (j := 6) dX9_calendar_31 gc9 rfl (by decide) rfl (by decide) fl_F_49 ?_
    refine g_call0 dX9_calendar_34 clT_wipe ml_F_158 gc7 rfl rfl (by decide) (Nat.le_of_ble_eq_true rfl) ?_
    refine ST_wipe ?_
    refine g_pop dX9_calendar_37 rfl ?_
    refine g_iload_n dX9_calendar_38 rfl ?_
    refine g_ireturn dX9_calendar_39 rfl (by first | rfl | exact nar_bI _) ?_
    obtain ⟨q, r2⟩ := r
    cases q with
    | inl a =>
      refine h (mset M2 41 1 (nI 0)) (FxC.of (L := [1, 2, 10, 11, 12, 41, 43, 47, 48]) ((hE1.sub (by decide)).tr ((hE2.sub (by decide)).tr (EqO.set (by decide)))) (by decide)) (hB2.off (fun k k1 k2 => mset_ne (by omega))) ?_
      rw [mset_at]; rfl
    | inr f => cases hok
  · have hok := Bool.eq_false_iff.mpr hok
    rw [if_neg (by rw [hok]; decide)] at h
    rw [hok]
    obtain ⟨q, r2⟩ := r
    cases q with
    | inl a => cases hok
    | inr f =>
      refine g_if_eq_tt 22 dX9_calendar_14 (by decide) ?_
      refine g_aload_n dX9_calendar_17 rfl ?_
      refine g_call0 dX9_calendar_18 clF_faultAnswer ml_F_149 gc9 rfl rfl (by decide) (Nat.le_of_ble_eq_true rfl) ?_
      refine SF_faultAnswer hT1 ?_
      refine g_ireturn dX9_calendar_21 rfl (by first | rfl | exact nar_bI _) ?_
      refine h (mset M1 41 1 (nI 0)) (FxC.of (L := [41, 43, 47, 48]) (hE1.tr (EqO.set (by decide))) (by decide)) (hB1.off (fun k k1 k2 => mset_ne (by omega))) ?_
      rw [mset_at]; rfl
/-! calendar in the reference, both -/
def CWm (M : Mm) (l : List RU) : Prop := ∀ j, j < l.length → M 70 (3 * j) = nI (gR l j).1 ∧ M 70 (3 * j + 1) = nI (gR l j).2.1
theorem CWm.app {M M' : Mm} {l : List RU} {x : RU} (h : CWm M l) (h1 : ∀ j, j < 3 * l.length → M' 70 j = M 70 j) (h2 : M' 70 (3 * l.length) = nI x.1 ∧ M' 70 (3 * l.length + 1) = nI x.2.1) : CWm M' (l ++ [x]) := by
  intro j hj
  rw [List.length_append, List.length_singleton] at hj
  by_cases e : j = l.length
  · subst e; rw [show gR (l ++ [x]) l.length = x from getD_lastR]; exact h2
  · rw [show gR (l ++ [x]) j = gR l j from getD_appR (by omega), h1 _ (by omega), h1 _ (by omega)]
    exact h j (by omega)
theorem CWm.off {M M' : Mm} {l : List RU} (h : CWm M l) (h1 : M' 70 = M 70) : CWm M' l := by
  intro j hj
  rw [h1]
  exact h j hj
theorem en_bad {n : Nat} {t : Nat → Nat} {M : Mm} {q : TS} (hT : TM n t M q) (h : okB (enS n q) = false) : ∃ f, enS n q = .inr f ∧ f < 151 := by
  have hn := hT.1.1
  cases q with
  | inl b =>
    have hb : b ≤ n := hT.2.1
    simp only [enS] at h ⊢
    split at h
    · rename_i z; rw [if_pos z]; exact ⟨b, rfl, by omega⟩
    · cases h
  | inr f => exact ⟨f, rfl, hT.le⟩
theorem cl_ok {w : Int32} {q : TS} (h : okB q = true) : clV w q = w := by
  cases q with
  | inl a => rfl
  | inr f => cases h
theorem SM_calendar (M : Mm) (S : BS) (n : Nat) (t : Nat → Nat) (Q : Po) (hM : MK (M 58) S) (hC : MC M) (hH : HM S) (hT : TPm n t M) (h : ∀ M', FxM M M' → MK (M' 58) (f_calendar S n t).2.1 → M' 57 19 = (if (f_calendar S n t).2.2 = true then nI n else nI 0) → Q M' (some (.int (f_calendar S n t).1))) : Call 60 mM_calendar [.ref 57] M Q := by
  have hw := hM.wf.nd
  unfold f_calendar at h
  dsimp only at h
  refine Call_of (m := mM_calendar) [some (.ref 57), none, none] rfl (fun G => Nat.le_of_ble_eq_true rfl) (fun G => rfl) ?_
  refine g_aload_n dX10_calendar_0 rfl ?_
  refine g_call0 dX10_calendar_1 clM_opensTape ml_M_282 gc10 rfl rfl (by decide) (Nat.le_of_ble_eq_true rfl) ?_
  refine SM_opensTape hT (fun M1 hE1 hT1 => ?_)
  refine g_aload_n dX10_calendar_4 rfl ?_
  refine g_iconst (nI 0) dX10_calendar_5 ki_0 ?_
  refine g_puti (j := 24) dX10_calendar_6 gc10 rfl (by decide) rfl (by decide) fl_M_270 rfl (tyX10_ok 24 (by decide)) (by first | rfl | exact nar_bI _) rfl ?_
  have hinv := fun (hx : okB (csP n t (24 - S 1 0 0) (.inl 0) []).1 = true) => csP_ok (n := n) (t := t) (r := 24 - S 1 0 0) (q := .inl 0) (l := []) (fun x hx => absurd hx (by simp)) hx
  have htail : ∀ q l M', EqQ [70] M M' → TM n t M' q → M' 57 24 = nI l.length → csP n t (24 - S 1 0 0) (.inl 0) [] = (enS n q, l) → (okB (enS n q) = true → CWm M' l) → Go mM_calendar 60 Q 91 [some (.ref 57), none, none] [] M' := by
    intro q l M' hE hT2 h24 hrs hR
    rw [hrs] at h hinv
    dsimp only at h
    refine g_aload_n dX10_calendar_91 rfl ?_
    refine g_aload_n dX10_calendar_92 rfl ?_
    refine g_geti (j := 24) dX10_calendar_93 gc10 rfl (by decide) rfl (by decide) fl_M_270 ?_
    try simp (disch := omega) only [h24]
    refine g_call1 dX10_calendar_96 clM_closes ml_M_288 gc10 rfl rfl (by decide) (Nat.le_of_ble_eq_true rfl) ?_
    refine SM_closes _ hT2 (fun M2 hE2 h19 => ?_)
    have hX2 : EqX [58, 70] M M2 := ((EqX.ofQ hE).sub (by decide)).tr (EqX.ofC hE2)
    have k58 : M2 58 = M 58 := by
      funext j
      rw [hE2 58 j (by omega), hE 58 j (by decide) (by omega)]
    have hM2 : MK (M2 58) S := by rw [k58]; exact hM
    by_cases hok : okB (enS n q) = true
    · obtain ⟨v1, v2, v3⟩ := hinv hok
      have v2 : l.length ≤ 24 - S 1 0 0 := by simpa using v2
      have v1 : ∀ x ∈ l, caOK x := v1
      have hR2 : CWm M2 l := (hR hok).off (funext fun j => hE2 70 j (by omega))
      rw [if_pos hok] at h
      rw [cl_ok hok] at h ⊢
      refine g_ist3_1 dX10_calendar_99 (by decide) rfl ?_
      refine g_iconst (nI 0) dX10_calendar_100 ki_0 ?_
      refine g_ist3_2 dX10_calendar_101 (by decide) rfl ?_
      refine loop_up (P := fun i => ∀ M', EqO [58] M2 M' → MK (M' 58) (adC S l i) → Go mM_calendar 60 Q 102 [some (.ref 57), some (.int (nI l.length)), some (.int (nI i))] [] M') l.length ?_ 0 (Nat.zero_le _) M2 EqO.rf hM2
      intro i hi ih M3 hE3 hM3
      refine g_iload_n dX10_calendar_102 rfl ?_
      refine g_iload_n dX10_calendar_103 rfl ?_
      refine g_icmp_ge_n 135 dX10_calendar_104 (by decide) (by omega) (by omega) (fun c104 => ?_) (fun c104 => ?_)
      · refine g_iload_n dX10_calendar_135 rfl ?_
        refine g_ireturn dX10_calendar_136 rfl (by first | rfl | exact nar_bI _) ?_
        rw [show i = l.length by omega] at hM3
        refine h M3 (FxM.ofX (hX2.tr ((EqX.ofO hE3).sub (by decide))) (by decide)) hM3 ?_
        rw [hE3 57 (by decide), h19]
        rfl
      · obtain ⟨r1, r2⟩ := hR2 i (by omega)
        have hok := gR_ca v1 (j := i) (by omega)
        have s1 : M3 70 (3 * i) = nI (gR l i).1 := by rw [hE3 70 (by decide)]; exact r1
        have s2 : M3 70 (3 * i + 1) = nI (gR l i).2.1 := by rw [hE3 70 (by decide)]; exact r2
        refine g_aload_n dX10_calendar_107 rfl ?_
        refine g_aload_n dX10_calendar_108 rfl ?_
        refine g_getr (j := 23) dX10_calendar_109 gc10 rfl (by decide) rfl (by decide) fl_M_47 ?_
        refine g_iconst (nI 3) dX10_calendar_112 ki_3 ?_
        refine g_iload_n dX10_calendar_113 rfl ?_
        first | refine g_imul_n dX10_calendar_114 ?_ | refine g_imul dX10_calendar_114 ?_
        refine g_iald_n dX10_calendar_115 (by first | rfl | assumption) (by first | decide | assumption) (by omega) (by omega) ?_
        try simp (disch := omega) only [s1, s2]
        refine g_aload_n dX10_calendar_116 rfl ?_
        refine g_getr (j := 23) dX10_calendar_117 gc10 rfl (by decide) rfl (by decide) fl_M_47 ?_
        refine g_iconst (nI 3) dX10_calendar_120 ki_3 ?_
        refine g_iload_n dX10_calendar_121 rfl ?_
        first | refine g_imul_n dX10_calendar_122 ?_ | refine g_imul dX10_calendar_122 ?_
        refine g_iconst (nI 1) dX10_calendar_123 ki_1 ?_
        first | refine g_iadd_n dX10_calendar_124 ?_ | refine g_iadd dX10_calendar_124 ?_
        refine g_iald_n dX10_calendar_125 (by first | rfl | assumption) (by first | decide | assumption) (by omega) (by omega) ?_
        try simp (disch := omega) only [s1, s2]
        refine g_call2 dX10_calendar_126 clM_adds ml_M_137 gc10 rfl rfl (by decide) (Nat.le_of_ble_eq_true rfl) ?_
        refine SM_adds hM3 hok.1 hok.2 (by rw [adC_nd]; omega) (fun M4 hE4 hM4 => ?_)
        first | refine g_incn3_2 dX10_calendar_129 ki_1 (by decide) rfl ?_ | refine g_incg3_2 (nI 1) dX10_calendar_129 ki_1 (by decide) rfl ?_
        refine g_goto 102 dX10_calendar_132 (by decide) ?_
        exact ih (by omega) M4 (hE3.tr hE4) hM4
    · have hok := Bool.eq_false_iff.mpr hok
      rw [if_neg (by rw [hok]; decide)] at h
      obtain ⟨f, hf, hf2⟩ := en_bad hT2 hok
      have hneg := (neg_3 f hf2).2
      rw [hf] at h ⊢
      rw [show clV (nI l.length) (.inr f) = -100 - nI f from rfl] at h ⊢
      generalize -100 - nI f = w0 at h hneg ⊢
      refine g_ist3_1 dX10_calendar_99 (by decide) rfl ?_
      refine g_iconst (nI 0) dX10_calendar_100 ki_0 ?_
      refine g_ist3_2 dX10_calendar_101 (by decide) rfl ?_
      refine g_iload_n dX10_calendar_102 rfl ?_
      refine g_iload_n dX10_calendar_103 rfl ?_
      refine g_icmp_ge 135 dX10_calendar_104 (by decide) (fun c104 => ?_) (fun c104 => ?_)
      · refine g_iload_n dX10_calendar_135 rfl ?_
        refine g_ireturn dX10_calendar_136 rfl (by first | rfl | exact nar_bI _) ?_
        refine h M2 (FxM.ofX hX2 (by decide)) hM2 ?_
        rw [h19]
        rfl
      · exact absurd hneg c104
  suffices hloop : ∀ r q l M', l.length + r = 24 - S 1 0 0 → EqQ [70] M M' → TM n t M' q → M' 57 24 = nI l.length → CWm M' l → csP n t (24 - S 1 0 0) (.inl 0) [] = csP n t r q l → Go mM_calendar 60 Q 9 [some (.ref 57), none, none] [] M' by
    exact hloop _ _ [] _ (by simp) ((hE1.q.sub (by simp)).tr (EqQ.set57 (by omega))) (hT1.off (mset_ne (by decide)) (fun j hj => mset_off (by omega))) (mset_at _ _ _ _) (fun j hj => absurd hj (by simp)) rfl
  intro r
  clear h
  induction r with
  | zero =>
    intro q l M' hl hE hT2 h24 hR hq
    rw [csP] at hq
    have end_ : M' 58 2 = nI (S 1 0 0) := by rw [hE 58 _ (by decide) (by omega)]; exact hM.nd
    refine g_aload_n dX10_calendar_9 rfl ?_
    refine g_getr (j := 0) dX10_calendar_10 gc10 rfl (by decide) rfl (by decide) fl_M_9 ?_
    refine g_iconst (nI 2) dX10_calendar_13 ki_2 ?_
    refine g_iald_n dX10_calendar_14 (by first | rfl | assumption) (by first | decide | assumption) (by omega) (by omega) ?_
    try simp (disch := omega) only [end_, h24]
    refine g_aload_n dX10_calendar_15 rfl ?_
    refine g_geti (j := 24) dX10_calendar_16 gc10 rfl (by decide) rfl (by decide) fl_M_270 ?_
    try simp (disch := omega) only [end_, h24]
    first | refine g_iadd_n dX10_calendar_19 ?_ | refine g_iadd dX10_calendar_19 ?_
    refine g_bipush (nI 24) dX10_calendar_20 kb_24 ?_
    refine g_icmp_lt_n 36 dX10_calendar_22 (by decide) (by omega) (by omega) (fun c22 => ?_) (fun c22 => ?_)
    · exact absurd hl (by omega)
    · refine g_aload_n dX10_calendar_25 rfl ?_
      refine g_aload_n dX10_calendar_26 rfl ?_
      refine g_geti (j := 20) dX10_calendar_27 gc10 rfl (by decide) rfl (by decide) fl_M_251 ?_
      try simp (disch := omega) only [end_, h24]
      refine g_call1 dX10_calendar_30 clM_faults ml_M_260 gc10 rfl rfl (by decide) (Nat.le_of_ble_eq_true rfl) ?_
      refine SM_faultsA hT2 rfl (fun M2 hE2 hT3 => ?_)
      refine g_goto 82 dX10_calendar_33 (by decide) ?_
      refine g_aload_n dX10_calendar_82 rfl ?_
      refine g_bipush (nI 59) dX10_calendar_83 kb_59 ?_
      refine g_call1 dX10_calendar_85 clM_takes ml_M_257 gc10 rfl rfl (by decide) (Nat.le_of_ble_eq_true rfl) ?_
      refine SM_takes (c := 59) (by omega) hT3 (fun M3 hE3 hT4 => ?_)
      rw [tkS_f tk_fl] at hT4
      rw [tk_fl]
      refine g_if_ne_ff 9 dX10_calendar_88 (by decide) ?_
      exact htail (flA q) l M3 (hE.tr ((hE2.q.sub (by simp)).tr (hE3.q.sub (by simp)))) hT4 (by rw [hE3 57 24 (by omega), hE2 57 24 (by omega)]; exact h24) (by rw [en_fl]; exact hq) (fun z => by rw [en_fl, ok_fl] at z; cases z)
  | succ r ih =>
    intro q l M' hl hE hT2 h24 hR hq
    rw [csP] at hq
    have end_ : M' 58 2 = nI (S 1 0 0) := by rw [hE 58 _ (by decide) (by omega)]; exact hM.nd
    have hC2 : MC M' := ⟨fun j hj => by rw [hE 60 _ (by decide) (by omega)]; exact hC.1 j hj, fun j hj => by rw [hE 61 _ (by decide) (by omega)]; exact hC.2 j hj⟩
    refine g_aload_n dX10_calendar_9 rfl ?_
    refine g_getr (j := 0) dX10_calendar_10 gc10 rfl (by decide) rfl (by decide) fl_M_9 ?_
    refine g_iconst (nI 2) dX10_calendar_13 ki_2 ?_
    refine g_iald_n dX10_calendar_14 (by first | rfl | assumption) (by first | decide | assumption) (by omega) (by omega) ?_
    try simp (disch := omega) only [end_, h24]
    refine g_aload_n dX10_calendar_15 rfl ?_
    refine g_geti (j := 24) dX10_calendar_16 gc10 rfl (by decide) rfl (by decide) fl_M_270 ?_
    try simp (disch := omega) only [end_, h24]
    first | refine g_iadd_n dX10_calendar_19 ?_ | refine g_iadd dX10_calendar_19 ?_
    refine g_bipush (nI 24) dX10_calendar_20 kb_24 ?_
    refine g_icmp_lt_n 36 dX10_calendar_22 (by decide) (by omega) (by omega) (fun c22 => ?_) (fun c22 => ?_)
    rotate_left
    · exact absurd hl (by omega)
    refine g_aload_n dX10_calendar_36 rfl ?_
    refine g_getr (j := 23) dX10_calendar_37 gc10 rfl (by decide) rfl (by decide) fl_M_47 ?_
    refine g_iconst (nI 3) dX10_calendar_40 ki_3 ?_
    refine g_aload_n dX10_calendar_41 rfl ?_
    refine g_geti (j := 24) dX10_calendar_42 gc10 rfl (by decide) rfl (by decide) fl_M_270 ?_
    try simp (disch := omega) only [end_, h24]
    first | refine g_imul_n dX10_calendar_45 ?_ | refine g_imul dX10_calendar_45 ?_
    refine g_aload_n dX10_calendar_46 rfl ?_
    refine g_iconst (nI 0) dX10_calendar_47 ki_0 ?_
    refine g_sipush (nI 365) dX10_calendar_48 ks_365 ?_
    refine g_call2 dX10_calendar_51 clM_number ml_M_273 gc10 rfl rfl (by decide) (Nat.le_of_ble_eq_true rfl) ?_
    refine SM_number (lo := 0) (hi := 365) hT2 (fun _ => ⟨rfl, rfl⟩) (by omega) (by omega) (fun M2 v1 hE2 hT3 hv1 => ?_)
    have f24 : mset M2 70 (3 * l.length) v1 57 24 = nI l.length := by rw [mset_ne (by decide), hE2 57 24 (by omega)]; exact h24
    refine g_iast_n dX10_calendar_54 (by first | rfl | assumption) (by first | decide | assumption) (by omega) (by omega) ?_
    refine g_aload_n dX10_calendar_55 rfl ?_
    refine g_getr (j := 23) dX10_calendar_56 gc10 rfl (by decide) rfl (by decide) fl_M_47 ?_
    refine g_iconst (nI 3) dX10_calendar_59 ki_3 ?_
    refine g_aload_n dX10_calendar_60 rfl ?_
    refine g_geti (j := 24) dX10_calendar_61 gc10 rfl (by decide) rfl (by decide) fl_M_270 ?_
    try simp (disch := omega) only [f24]
    first | refine g_imul_n dX10_calendar_64 ?_ | refine g_imul dX10_calendar_64 ?_
    refine g_iconst (nI 1) dX10_calendar_65 ki_1 ?_
    first | refine g_iadd_n dX10_calendar_66 ?_ | refine g_iadd dX10_calendar_66 ?_
    refine g_aload_n dX10_calendar_67 rfl ?_
    refine g_call0 dX10_calendar_68 clM_kindLetter ml_M_279 gc10 rfl rfl (by decide) (Nat.le_of_ble_eq_true rfl) ?_
    refine SM_kindLetter (hT3.off (mset_ne (by decide)) (fun j hj => by rw [mset_ne (by decide)])) ⟨fun j hj => by rw [mset_ne (by decide), hE2.row (by decide)]; exact hC2.1 j hj, fun j hj => by rw [mset_ne (by decide), hE2.row (by decide)]; exact hC2.2 j hj⟩ (fun M3 hE3 hT4 => ?_)
    have g24 : M3 57 24 = nI l.length := by rw [hE3 57 24 (by omega)]; exact f24
    generalize hk0 : (if kdV n t (nuS n t 0 365 q) = 4 then nI 0 else nI (kdV n t (nuS n t 0 365 q))) = w0
    refine g_iast_n dX10_calendar_71 (by first | rfl | assumption) (by first | decide | assumption) (by omega) (by omega) ?_
    refine g_aload_n dX10_calendar_72 rfl ?_
    refine g_dup dX10_calendar_73 rfl ?_
    refine g_geti (j := 24) dX10_calendar_74 gc10 rfl (by decide) rfl (by decide) fl_M_270 ?_
    try simp (disch := omega) only [mset_ne, g24]
    refine g_iconst (nI 1) dX10_calendar_77 ki_1 ?_
    first | refine g_iadd_n dX10_calendar_78 ?_ | refine g_iadd dX10_calendar_78 ?_
    refine g_puti (j := 24) dX10_calendar_79 gc10 rfl (by decide) rfl (by decide) fl_M_270 rfl (tyX10_ok 24 (by decide)) (by first | rfl | exact nar_bI _) rfl ?_
    refine g_aload_n dX10_calendar_82 rfl ?_
    refine g_bipush (nI 59) dX10_calendar_83 kb_59 ?_
    refine g_call1 dX10_calendar_85 clM_takes ml_M_257 gc10 rfl rfl (by decide) (Nat.le_of_ble_eq_true rfl) ?_
    generalize hM5 : mset (mset M3 70 (3 * l.length + 1) w0) 57 24 (nI (l.length + 1)) = M5
    have hT5 : TM n t M5 (caP n t q).1 := by
      rw [← hM5]
      exact (hT4.off (mset_ne (by decide)) (fun j hj => by rw [mset_ne (by decide)])).off (mset_ne (by decide)) (fun j hj => mset_off (by omega))
    have hE5 : EqQ [70] M M5 := by
      rw [← hM5]
      exact (((hE.tr (hE2.q.sub (by simp))).tr (EqQ.set (by decide))).tr (hE3.q.sub (by simp))).tr ((EqQ.set (by decide)).tr (EqQ.set57 (by omega)))
    have e24 : M5 57 24 = nI (l.length + 1) := by rw [← hM5, mset_at]
    have e70 : M5 70 = upd (upd (M' 70) (3 * l.length) v1) (3 * l.length + 1) w0 := by rw [← hM5, mset_ne (by decide), mset_same, hE3.row (by decide), mset_same, hE2.row (by decide)]
    have hR5 : okB (caP n t q).1 = true → CWm M5 (l ++ [(caP n t q).2]) := fun z => by
      refine hR.app (fun j hj => ?_) ?_
      · rw [e70, upd_off (by omega), upd_off (by omega)]
      · rw [e70, upd_off (by omega), upd_at, upd_at]
        have := (caP_ok z).2.2
        have hkd : kdV n t (nuS n t 0 365 q) < 4 := this
        refine ⟨hv1 (caP_ok z).1, ?_⟩
        rw [← hk0, if_neg (by omega)]
        rfl
    clear hM5
    refine SM_takes (c := 59) (by omega) hT5 (fun M6 hE6 hT6 => ?_)
    have hE7 : EqQ [70] M M6 := hE5.tr (hE6.q.sub (by simp))
    have e24' : M6 57 24 = nI (l ++ [(caP n t q).2]).length := by
      rw [hE6 57 24 (by omega), e24]
      simp
    have hR6 : okB (caP n t q).1 = true → CWm M6 (l ++ [(caP n t q).2]) := fun z => (hR5 z).off (hE6.row (by decide))
    by_cases c : tk n t 59 (caP n t q).1 = true
    · rw [if_pos c] at hq
      rw [c]
      refine g_if_ne_tt 9 dX10_calendar_88 (by decide) ?_
      exact ih _ _ M6 (by simp; omega) hE7 hT6 e24' (hR6 (tk_ok c)) hq
    · rw [if_neg c] at hq
      have c := Bool.eq_false_iff.mpr c
      rw [tkS_f c] at hT6
      rw [c]
      refine g_if_ne_ff 9 dX10_calendar_88 (by decide) ?_
      exact htail _ _ M6 hE7 hT6 e24' hq (fun z => hR6 (ok_en z).1)
theorem both_calendar : Both mF_calendar mM_calendar [] := both_text f_calendar (fun M S n t Q => SF_calendar M S n t Q) (fun M S n t Q => SM_calendar M S n t Q) (fun S n t hn ht hW hH => by
  unfold f_calendar
  dsimp only
  split
  · exact adC_HM hH _ _
  · exact hH)
/-! ROSTERS: pure, read in the class -/
def fhS (S : BS) (n : Nat) (t : Nat → Nat) : TS → TS
  | .inl a => if dgt (tb n t a) = true ∧ hr S (tb n t a - 48) = true then .inl (a + 1) else .inr a
  | .inr f => .inr f
def hoQ (S : BS) (n : Nat) (t : Nat → Nat) (e : Nat) (q : TS) : TS := mu n t 61 (mu n t (lw (S 11 e 0)) (nuS n t (S 10 e 0) (S 10 e 0) q))
def hoP (S : BS) (n : Nat) (t : Nat → Nat) (e : Nat) (q : TS) : TS × Nat := if tk n t 45 (hoQ S n t e q) = true then (tkS n t 45 (hoQ S n t e q), 8) else (fhS S n t (hoQ S n t e q), fgV n t (hoQ S n t e q))
def roP (S : BS) (n : Nat) (t : Nat → Nat) : Nat → TS × (Nat → Nat)
  | 0 => (.inl 0, fun _ => 8)
  | i + 1 => ((hoP S n t (sd S i) (if i = 0 then (roP S n t i).1 else mu n t 59 (roP S n t i).1)).1, fun d => if d = sd S i then (hoP S n t (sd S i) (if i = 0 then (roP S n t i).1 else mu n t 59 (roP S n t i).1)).2 else (roP S n t i).2 d)
theorem ok_fh {S : BS} {n : Nat} {t : Nat → Nat} {q : TS} (h : okB (fhS S n t q) = true) : okB q = true ∧ hr S (fgV n t q) = true := by
  cases q with
  | inl a =>
    simp only [fhS] at h
    split at h
    · rename_i z; exact ⟨rfl, z.2⟩
    · cases h
  | inr f => cases h
theorem hoP_ok {S : BS} {n : Nat} {t : Nat → Nat} {e : Nat} {q : TS} (h : okB (hoP S n t e q).1 = true) : okB q = true ∧ ((hoP S n t e q).2 = 8 ∨ hr S (hoP S n t e q).2 = true) := by
  have h2 : okB (hoQ S n t e q) = true → okB q = true := fun z => (ok_nu (ok_mu (ok_mu z))).1
  unfold hoP at h ⊢
  by_cases c : tk n t 45 (hoQ S n t e q) = true
  · rw [if_pos c] at h ⊢
    exact ⟨h2 (tk_ok c), Or.inl rfl⟩
  · rw [if_neg c] at h ⊢
    obtain ⟨h3, h4⟩ := ok_fh h
    exact ⟨h2 h3, Or.inr h4⟩
theorem roP_ok {S : BS} {n : Nat} {t : Nat → Nat} : ∀ {i : Nat}, okB (roP S n t i).1 = true → ∀ d, (roP S n t i).2 d = 8 ∨ hr S ((roP S n t i).2 d) = true
  | 0, _, d => Or.inl rfl
  | i + 1, h, d => by
    rw [roP] at h ⊢
    obtain ⟨h1, h2⟩ := hoP_ok h
    dsimp only
    split
    · exact h2
    · refine roP_ok ?_ d
      split at h1
      · exact h1
      · exact ok_mu h1
theorem roP_no {S : BS} {n : Nat} {t : Nat → Nat} {i : Nat} (h : okB (roP S n t i).1 = false) : ∀ k, (roP S n t (i + k)).1 = (roP S n t i).1
  | 0 => rfl
  | k + 1 => by
    rw [← Nat.add_assoc, roP]
    dsimp only
    rw [roP_no h k]
    generalize (roP S n t i).1 = q at h
    cases q with
    | inl a => cases h
    | inr f =>
      have e : (if i + k = 0 then (Sum.inr f : TS) else mu n t 59 (.inr f)) = .inr f := by split <;> rfl
      rw [e]
      rfl
theorem kv_eq {k j : Nat} (hk : k ≤ 4) (hj : j < 4) : kv k = nI j ↔ k = j := by
  unfold kv
  by_cases e : k = 4
  · rw [if_pos e]
    exact ⟨fun z => absurd z.symm (nI_m1 (by omega)), fun z => by omega⟩
  · rw [if_neg e]; exact nI_eq (by omega) (by omega)
theorem kdV_le (n : Nat) (t : Nat → Nat) (q : TS) : kdV n t q ≤ 4 := by
  cases q with
  | inl a => exact lwI_le _
  | inr f => exact Nat.le_refl 4
theorem SX_readHolder {d : Nat} {n : Nat} {t : Nat → Nat} {M : Mm} {S : BS} {Q : Po} {e : Nat} {q : TS} (hB : BK M S) (he : e < S 1 0 0) (hT : TC n t M q) (h : ∀ M', EqO [41, 49] M M' → TC n t M' (hoP S n t e q).1 → (∀ j, j ≠ e → M' 49 j = M 49 j) → (okB (hoP S n t e q).1 = true → M' 49 e = hv (hoP S n t e q).2) → Q M' none) : Call (d + 5) mX_readHolder [.ref 43, .int (nI e)] M Q := by
  have hw := hB.wf.nd
  have hdk := hB.wf.dk (d := e) (by omega)
  have hn := hT.1.1
  refine Call_of (m := mX_readHolder) [some (.ref 43), some (.int (nI e)), none, none] rfl (fun G => Nat.le_of_ble_eq_true rfl) (fun G => rfl) ?_
  refine g_aload_n dX8_readHolder_0 rfl ?_
  refine g_getr (j := 0) dX8_readHolder_1 gc8 rfl (by decide) rfl (by decide) fl_X_30 ?_
  refine g_iload_n dX8_readHolder_4 rfl ?_
  refine g_call1 dX8_readHolder_5 clB_isDuty ml_X_104 gc0 rfl rfl (by decide) (Nat.le_of_ble_eq_true rfl) ?_
  refine SB_isDutyT hB he ?_
  refine g_if_ne_tt 12 dX8_readHolder_8 (by decide) ?_
  refine g_aload_n dX8_readHolder_12 rfl ?_
  refine g_getr (j := 1) dX8_readHolder_13 gc8 rfl (by decide) rfl (by decide) fl_X_34 ?_
  refine g_aload_n dX8_readHolder_16 rfl ?_
  refine g_getr (j := 0) dX8_readHolder_17 gc8 rfl (by decide) rfl (by decide) fl_X_30 ?_
  refine g_iload_n dX8_readHolder_20 rfl ?_
  refine g_call1 dX8_readHolder_21 clB_dayOf ml_X_107 gc0 rfl rfl (by decide) (Nat.le_of_ble_eq_true rfl) ?_
  refine SB_dayOf hB he ?_
  refine g_aload_n dX8_readHolder_24 rfl ?_
  refine g_getr (j := 0) dX8_readHolder_25 gc8 rfl (by decide) rfl (by decide) fl_X_30 ?_
  refine g_iload_n dX8_readHolder_28 rfl ?_
  refine g_call1 dX8_readHolder_29 clB_dayOf ml_X_107 gc0 rfl rfl (by decide) (Nat.le_of_ble_eq_true rfl) ?_
  refine SB_dayOf hB he ?_
  refine g_call2 dX8_readHolder_32 clT_takeNumber ml_X_75 gc7 rfl rfl (by decide) (Nat.le_of_ble_eq_true rfl) ?_
  refine ST_takeNumber (lo := S 10 e 0) (hi := S 10 e 0) hT (fun _ => ⟨rfl, rfl⟩) (by omega) (by omega) (fun M1 v1 hE1 hT1 _ => ?_)
  generalize hq1 : nuS n t (S 10 e 0) (S 10 e 0) q = q1 at hT1
  obtain ⟨a1, ha1, e21, ea1⟩ := hT1.at
  refine g_pop dX8_readHolder_35 rfl ?_
  refine g_aload_n dX8_readHolder_36 rfl ?_
  refine g_getr (j := 1) dX8_readHolder_37 gc8 rfl (by decide) rfl (by decide) fl_X_34 ?_
  refine g_call0 dX8_readHolder_40 clT_at ml_X_64 gc7 rfl rfl (by decide) (Nat.le_of_ble_eq_true rfl) ?_
  refine ST_at ?_
  rw [e21]
  refine g_ist4_2 dX8_readHolder_43 (by decide) rfl ?_
  refine g_aload_n dX8_readHolder_44 rfl ?_
  refine g_getr (j := 1) dX8_readHolder_45 gc8 rfl (by decide) rfl (by decide) fl_X_34 ?_
  refine g_call0 dX8_readHolder_48 clT_takeKind ml_X_82 gc7 rfl rfl (by decide) (Nat.le_of_ble_eq_true rfl) ?_
  refine ST_takeKind hT1 (fun M2 hE2 hT2 => ?_)
  have hB2 : BK M2 S := hB.eqO ((hE1.sub (L' := [41]) (by decide)).tr hE2) (by decide)
  refine g_aload_n dX8_readHolder_51 rfl ?_
  refine g_getr (j := 0) dX8_readHolder_52 gc8 rfl (by decide) rfl (by decide) fl_X_30 ?_
  refine g_iload_n dX8_readHolder_55 rfl ?_
  refine g_call1 dX8_readHolder_56 clB_kindOf ml_X_110 gc0 rfl rfl (by decide) (Nat.le_of_ble_eq_true rfl) ?_
  refine SB_kindOf hB2 he ?_
  have hrest : ∀ M3, EqO [41] M M3 → TC n t M3 (mu n t (lw (S 11 e 0)) q1) → Go mX_readHolder (d + 5) Q 70 [some (.ref 43), some (.int (nI e)), some (.int (nI a1)), none] [] M3 := by
    intro M3 hE3 hT3
    have hQ : hoQ S n t e q = mu n t 61 (mu n t (lw (S 11 e 0)) q1) := by unfold hoQ; rw [hq1]
    refine g_aload_n dX8_readHolder_70 rfl ?_
    refine g_getr (j := 1) dX8_readHolder_71 gc8 rfl (by decide) rfl (by decide) fl_X_34 ?_
    refine g_bipush (nI 61) dX8_readHolder_74 kb_61 ?_
    refine g_call1 dX8_readHolder_76 clT_take ml_X_79 gc7 rfl rfl (by decide) (Nat.le_of_ble_eq_true rfl) ?_
    refine ST_take (c := 61) (by omega) hT3 (fun M4 hE4 hT4 => ?_)
    rw [← hQ] at hT4
    refine g_aload_n dX8_readHolder_79 rfl ?_
    refine g_getr (j := 7) dX8_readHolder_80 gc8 rfl (by decide) rfl (by decide) fl_X_27 ?_
    refine g_iload_n dX8_readHolder_83 rfl ?_
    refine g_iconst ((-1)) dX8_readHolder_84 ki_m1 ?_
    refine g_iast_n dX8_readHolder_85 (by first | rfl | assumption) (by first | decide | assumption) (by omega) (by omega) ?_
    refine g_aload_n dX8_readHolder_86 rfl ?_
    refine g_getr (j := 1) dX8_readHolder_87 gc8 rfl (by decide) rfl (by decide) fl_X_34 ?_
    refine g_bipush (nI 45) dX8_readHolder_90 kb_45 ?_
    refine g_call1 dX8_readHolder_92 clT_takesIf ml_X_71 gc7 rfl rfl (by decide) (Nat.le_of_ble_eq_true rfl) ?_
    refine ST_takesIf (c := 45) (by omega) (hT4.off (mset_ne (by decide)) (mset_ne (by decide))) (fun M5 hE5 hT5 => ?_)
    have hE6 : EqO [41, 49] M M5 := ((hE3.sub (by decide)).tr (hE4.sub (by decide))).tr ((EqO.set (by decide)).tr (hE5.sub (by decide)))
    have e49 : M5 49 = upd (M 49) e (-1) := by rw [hE5 49 (by decide), mset_same, hE4 49 (by decide), hE3 49 (by decide)]
    unfold hoP at h
    by_cases c : tk n t 45 (hoQ S n t e q) = true
    · rw [if_pos c] at h
      rw [c]
      refine g_if_eq_tt 99 dX8_readHolder_95 (by decide) ?_
      refine g_return dX8_readHolder_98 rfl ?_
      refine h M5 hE6 hT5 (fun j hj => by rw [e49, upd_off hj]) (fun _ => ?_)
      rw [e49, upd_at]
      rfl
    · rw [if_neg c] at h
      have c := Bool.eq_false_iff.mpr c
      rw [tkS_f c] at hT5
      rw [c]
      generalize hoQ S n t e q = q3 at h hT5
      obtain ⟨a3, ha3, e23, ea3⟩ := hT5.at
      refine g_if_eq_ff 99 dX8_readHolder_95 (by decide) ?_
      refine g_aload_n dX8_readHolder_99 rfl ?_
      refine g_getr (j := 1) dX8_readHolder_100 gc8 rfl (by decide) rfl (by decide) fl_X_34 ?_
      refine g_call0 dX8_readHolder_103 clT_at ml_X_64 gc7 rfl rfl (by decide) (Nat.le_of_ble_eq_true rfl) ?_
      refine ST_at ?_
      rw [e23]
      refine g_ist4_3 dX8_readHolder_106 (by decide) rfl ?_
      refine g_aload_n dX8_readHolder_107 rfl ?_
      refine g_getr (j := 7) dX8_readHolder_108 gc8 rfl (by decide) rfl (by decide) fl_X_27 ?_
      refine g_iload_n dX8_readHolder_111 rfl ?_
      refine g_aload_n dX8_readHolder_112 rfl ?_
      refine g_getr (j := 1) dX8_readHolder_113 gc8 rfl (by decide) rfl (by decide) fl_X_34 ?_
      refine g_call0 dX8_readHolder_116 clT_takeFigure ml_X_113 gc7 rfl rfl (by decide) (Nat.le_of_ble_eq_true rfl) ?_
      refine ST_takeFigure hT5 (fun M7 v hE7 hT7 hv hvok => ?_)
      have hB8 : BK (mset M7 49 e v) S := hB.eqO (hE6.tr ((hE7.sub (by decide)).tr (EqO.set (by decide)))) (by decide)
      have hE8 : EqO [41, 49] M (mset M7 49 e v) := hE6.tr ((hE7.sub (by decide)).tr (EqO.set (by decide)))
      have e498 : mset M7 49 e v 49 = upd (M 49) e v := by
        rw [mset_same, hE7 49 (by decide), e49]
        funext j
        by_cases z : j = e
        · subst z; rw [upd_at, upd_at]
        · rw [upd_off z, upd_off z, upd_off z]
      have hT8 : TC n t (mset M7 49 e v) (fgS n t q3) := hT7.off (mset_ne (by decide)) (mset_ne (by decide))
      have hfail : flS a3 (fgS n t q3) = fhS S n t q3 → Go mX_readHolder (d + 5) Q 136 [some (.ref 43), some (.int (nI e)), some (.int (nI a1)), some (.int (nI a3))] [] (mset M7 49 e v) := by
        intro hfl
        refine g_aload_n dX8_readHolder_136 rfl ?_
        refine g_getr (j := 1) dX8_readHolder_137 gc8 rfl (by decide) rfl (by decide) fl_X_34 ?_
        refine g_iload_n dX8_readHolder_140 rfl ?_
        refine g_call1 dX8_readHolder_141 clT_fail ml_X_68 gc7 rfl rfl (by decide) (Nat.le_of_ble_eq_true rfl) ?_
        refine ST_fail (p := a3) hT8 (fun b _ => ⟨rfl, ha3⟩) (fun M9 hE9 hT9 => ?_)
        rw [hfl] at hT9
        refine g_return dX8_readHolder_144 rfl ?_
        refine h M9 (hE8.tr (hE9.sub (by decide))) hT9 (fun j hj => by rw [hE9 49 (by decide), e498, upd_off hj]) (fun hok => ?_)
        exfalso
        dsimp only at hok
        rw [← hfl] at hok
        generalize fgS n t q3 = q4 at hok
        cases q4 with
        | inl b => cases hok
        | inr f => cases hok
      have ev : mset M7 49 e v 49 e = v := mset_at _ _ _ _
      refine g_iast_n dX8_readHolder_119 (by first | rfl | assumption) (by first | decide | assumption) (by omega) (by omega) ?_
      refine g_aload_n dX8_readHolder_120 rfl ?_
      refine g_getr (j := 0) dX8_readHolder_121 gc8 rfl (by decide) rfl (by decide) fl_X_30 ?_
      refine g_aload_n dX8_readHolder_124 rfl ?_
      refine g_getr (j := 7) dX8_readHolder_125 gc8 rfl (by decide) rfl (by decide) fl_X_27 ?_
      refine g_iload_n dX8_readHolder_128 rfl ?_
      refine g_iald_n dX8_readHolder_129 (by first | rfl | assumption) (by first | decide | assumption) (by omega) (by omega) ?_
      try simp (disch := omega) only [ev]
      refine g_call1 dX8_readHolder_130 clB_isHere ml_X_116 gc0 rfl rfl (by decide) (Nat.le_of_ble_eq_true rfl) ?_
      rcases hv with rfl | ⟨u, hu, rfl⟩
      · refine SB_isHereM ?_
        refine g_if_ne_ff 144 dX8_readHolder_133 (by decide) ?_
        refine hfail ?_
        cases q3 with
        | inl b =>
          simp only [fgS] at hvok
          simp only [fgS, fhS]
          by_cases z : dgt (tb n t b) = true
          · rw [if_pos z] at hvok
            exact absurd (hvok rfl).1.symm (nI_m1 (by have := (hvok rfl).2; omega))
          · rw [if_neg z, if_neg (fun y => z y.1)]; rfl
        | inr f => rfl
      · refine SB_isHere hB8 (by omega) ?_
        refine g_if_ne_b 144 dX8_readHolder_133 (by decide) (fun c133 => ?_) (fun c133 => ?_)
        · refine g_return dX8_readHolder_144 rfl ?_
          have hfg : fgS n t q3 = fhS S n t q3 ∧ (okB (fgS n t q3) = true → u = fgV n t q3) := by
            have hu2 : okB (fgS n t q3) = true → u = fgV n t q3 := fun z => by
              obtain ⟨z1, z2⟩ := hvok z
              exact (nI_eq (by omega) (by omega)).mp z1
            refine ⟨?_, hu2⟩
            cases q3 with
            | inl b =>
              simp only [fgS, fhS] at hu2 ⊢
              by_cases z : dgt (tb n t b) = true
              · rw [if_pos z] at hu2
                have hu3 : u = tb n t b - 48 := hu2 rfl
                rw [if_pos z, if_pos ⟨z, by rw [← hu3]; exact c133⟩]
              · rw [if_neg z, if_neg (fun y => z y.1)]
            | inr f => rfl
          refine h _ hE8 (by rw [← hfg.1]; exact hT8) (fun j hj => by rw [e498, upd_off hj]) (fun hok => ?_)
          dsimp only at hok
          rw [← hfg.1] at hok
          have hu3 := hfg.2 hok
          have h8 := hr_np hB.wf c133
          have hw8 := hB.wf.np
          rw [mset_at, ← hu3, hv_p (by omega)]
        · refine hfail ?_
          cases q3 with
          | inl b =>
            obtain rfl := ea3 b rfl
            simp only [fgS] at hvok
            simp only [fgS, fhS]
            by_cases z : dgt (tb n t b) = true
            · rw [if_pos z] at hvok
              obtain ⟨z1, z2⟩ := hvok rfl
              have z2 : tb n t b - 48 ≤ 9 := z2
              have hu3 : u = tb n t b - 48 := (nI_eq (by omega) (by omega)).mp z1
              rw [if_pos z, if_neg (fun y => by rw [← hu3, c133] at y; cases y.2)]
              rfl
            · rw [if_neg z, if_neg (fun y => z y.1)]; rfl
          | inr f => rfl
  refine g_icmp_eq 70 dX8_readHolder_59 (by decide) (fun c59 => ?_) (fun c59 => ?_)
  · rw [kv_eq (kdV_le n t q1) (by omega)] at c59
    refine hrest M2 (hE1.tr hE2) ?_
    rw [show mu n t (lw (S 11 e 0)) q1 = kdS n t q1 from ?_]
    · exact hT2
    · cases q1 with
      | inl b =>
        have hb4 : lwI (tb n t b) < 4 := by
          have : lwI (tb n t b) = S 11 e 0 := c59
          omega
        have hb : tb n t b = lw (S 11 e 0) := by rw [← lw_lwI hb4, show lwI (tb n t b) = S 11 e 0 from c59]
        simp only [mu, kdS]
        rw [if_pos hb, if_pos hb4]
      | inr f => rfl
  · rw [kv_eq (kdV_le n t q1) (by omega)] at c59
    refine g_aload_n dX8_readHolder_62 rfl ?_
    refine g_getr (j := 1) dX8_readHolder_63 gc8 rfl (by decide) rfl (by decide) fl_X_34 ?_
    refine g_iload_n dX8_readHolder_66 rfl ?_
    refine g_call1 dX8_readHolder_67 clT_fail ml_X_68 gc7 rfl rfl (by decide) (Nat.le_of_ble_eq_true rfl) ?_
    refine ST_fail (p := a1) hT2 (fun b _ => ⟨rfl, ha1⟩) (fun M3 hE3 hT3 => ?_)
    refine hrest M3 ((hE1.tr hE2).tr hE3) ?_
    rw [show mu n t (lw (S 11 e 0)) q1 = flS a1 (kdS n t q1) from ?_]
    · exact hT3
    · cases q1 with
      | inl b =>
        obtain rfl := ea1 b rfl
        have hb : ¬ tb n t b = lw (S 11 e 0) := fun z => c59 (by
          show lwI (tb n t b) = _
          rw [z, lwI_lw (by omega)])
        simp only [mu, kdS]
        rw [if_neg hb]
        split <;> rfl
      | inr f => rfl
/-! rosters in the class: read, held, judged -/
theorem sd_onto {S : BS} {e : Nat} (he : e < S 1 0 0) : ∃ k, k < S 1 0 0 ∧ sd S k = e := sdF_onto _ _ _ he
theorem SX_readRoster {d : Nat} {n : Nat} {t : Nat → Nat} {M : Mm} {S : BS} {Q : Po} (hB : BK M S) (hT : TPc n t M) (h : ∀ M', EqO [41, 49] M M' → TC n t M' (enS n (roP S n t (S 1 0 0)).1) → (okB (enS n (roP S n t (S 1 0 0)).1) = true → ∀ e, e < S 1 0 0 → M' 49 e = hv ((roP S n t (S 1 0 0)).2 e)) → Q M' none) : Call (d + 6) mX_readRoster [.ref 43] M Q := by
  have hw := hB.wf.nd
  have hend : ∀ i M', i ≤ S 1 0 0 → EqO [41, 49] M M' → TC n t M' (roP S n t (S 1 0 0)).1 → (okB (roP S n t (S 1 0 0)).1 = true → ∀ e, e < S 1 0 0 → M' 49 e = hv ((roP S n t (S 1 0 0)).2 e)) → Go mX_readRoster (d + 6) Q 61 [some (.ref 43), some (.int (nI i))] [] M' := by
    intro i M' hi hE hT2 hv2
    refine g_aload_n dX8_readRoster_61 rfl ?_
    refine g_getr (j := 1) dX8_readRoster_62 gc8 rfl (by decide) rfl (by decide) fl_X_34 ?_
    refine g_call0 dX8_readRoster_65 clT_end ml_X_101 gc7 rfl rfl (by decide) (Nat.le_of_ble_eq_true rfl) ?_
    refine ST_end hT2 (fun M2 hE2 hT3 => ?_)
    refine g_return dX8_readRoster_68 rfl ?_
    refine h M2 (hE.tr (hE2.sub (by decide))) hT3 (fun hok e he => ?_)
    rw [hE2 49 (by decide)]
    exact hv2 (ok_en hok).1 e he
  clear h
  refine Call_of (m := mX_readRoster) [some (.ref 43), none] rfl (fun G => Nat.le_of_ble_eq_true rfl) (fun G => rfl) ?_
  refine g_aload_n dX8_readRoster_0 rfl ?_
  refine g_getr (j := 1) dX8_readRoster_1 gc8 rfl (by decide) rfl (by decide) fl_X_34 ?_
  refine g_call0 dX8_readRoster_4 clT_start ml_X_48 gc7 rfl rfl (by decide) (Nat.le_of_ble_eq_true rfl) ?_
  refine ST_start hT (fun M0 hE0 hT0 => ?_)
  refine g_iconst (nI 0) dX8_readRoster_7 ki_0 ?_
  refine g_ist2_1 dX8_readRoster_8 (by decide) rfl ?_
  refine loop_up (P := fun i => ∀ M', EqO [41, 49] M M' → TC n t M' (roP S n t i).1 → (okB (roP S n t i).1 = true → ∀ j, j < i → M' 49 (sd S j) = hv ((roP S n t i).2 (sd S j))) → Go mX_readRoster (d + 6) Q 9 [some (.ref 43), some (.int (nI i))] [] M') (S 1 0 0) ?_ 0 (Nat.zero_le _) M0 (hE0.sub (by decide)) hT0 (fun _ j hj => absurd hj (by omega))
  intro i hi ih M' hE hT2 hv2
  have hB' : BK M' S := hB.eqO hE (by decide)
  refine g_iload_n dX8_readRoster_9 rfl ?_
  refine g_aload_n dX8_readRoster_10 rfl ?_
  refine g_getr (j := 0) dX8_readRoster_11 gc8 rfl (by decide) rfl (by decide) fl_X_30 ?_
  refine g_geti (j := 1) dX8_readRoster_14 gc0 rfl (by decide) rfl (by decide) fl_X_89 ?_
  try simp (disch := omega) only [hB'.nd]
  refine g_icmp_ge_n 61 dX8_readRoster_17 (by decide) (by omega) (by omega) (fun c17 => ?_) (fun c17 => ?_)
  · obtain rfl : i = S 1 0 0 := by omega
    exact hend _ M' (Nat.le_refl _) hE hT2 (fun hok e he => by
      obtain ⟨k, hk, e1⟩ := sd_onto he
      rw [← e1]
      exact hv2 hok k hk)
  · refine g_aload_n dX8_readRoster_20 rfl ?_
    refine g_getr (j := 1) dX8_readRoster_21 gc8 rfl (by decide) rfl (by decide) fl_X_34 ?_
    refine g_call0 dX8_readRoster_24 clT_isFaulty ml_X_57 gc7 rfl rfl (by decide) (Nat.le_of_ble_eq_true rfl) ?_
    refine ST_isFaulty hT2 ?_
    by_cases hok : okB (roP S n t i).1 = true
    · rw [hok]
      have hC : ∀ M2, EqO [41, 49] M M2 → M2 49 = M' 49 → TC n t M2 (if i = 0 then (roP S n t i).1 else mu n t 59 (roP S n t i).1) → Go mX_readRoster (d + 6) Q 43 [some (.ref 43), some (.int (nI i))] [] M2 := by
        intro M2 hE2 h49 hT3
        have hB2 : BK M2 S := hB.eqO hE2 (by decide)
        refine g_aload_n dX8_readRoster_43 rfl ?_
        refine g_aload_n dX8_readRoster_44 rfl ?_
        refine g_getr (j := 0) dX8_readRoster_45 gc8 rfl (by decide) rfl (by decide) fl_X_30 ?_
        refine g_iload_n dX8_readRoster_48 rfl ?_
        refine g_call1 dX8_readRoster_49 clB_dutyAt ml_X_95 gc0 rfl rfl (by decide) (Nat.le_of_ble_eq_true rfl) ?_
        refine SB_dutyAt hB2 (by omega) ?_
        refine g_call1 dX8_readRoster_52 clX_readHolder ml_X_98 gc8 rfl rfl (by decide) (Nat.le_of_ble_eq_true rfl) ?_
        refine SX_readHolder hB2 (sd_lt (by omega)) hT3 (fun M3 hE3 hT4 ho3 hv3 => ?_)
        first | refine g_incn2_1 dX8_readRoster_55 ki_1 (by decide) rfl ?_ | refine g_incg2_1 (nI 1) dX8_readRoster_55 ki_1 (by decide) rfl ?_
        refine g_goto 9 dX8_readRoster_58 (by decide) ?_
        refine ih (by omega) M3 (hE2.tr hE3) (by rw [roP]; exact hT4) (fun hok3 j hj => ?_)
        rw [roP] at hok3 ⊢
        dsimp only at hok3 ⊢
        by_cases z : sd S j = sd S i
        · rw [z, if_pos rfl]; exact hv3 hok3
        · rw [if_neg z, ho3 _ z, h49]
          refine hv2 hok j ?_
          rcases Nat.lt_or_ge j i with y | y
          · exact y
          · exact absurd (by rw [show j = i by omega]) z
      refine g_if_ne_ff 61 dX8_readRoster_27 (by decide) ?_
      refine g_iload_n dX8_readRoster_30 rfl ?_
      refine g_if_le_n 43 dX8_readRoster_31 (by decide) (by omega) (fun c31 => ?_) (fun c31 => ?_)
      · exact hC M' hE rfl (by rw [if_pos (by omega)]; exact hT2)
      · refine g_aload_n dX8_readRoster_34 rfl ?_
        refine g_getr (j := 1) dX8_readRoster_35 gc8 rfl (by decide) rfl (by decide) fl_X_34 ?_
        refine g_bipush (nI 59) dX8_readRoster_38 kb_59 ?_
        refine g_call1 dX8_readRoster_40 clT_take ml_X_79 gc7 rfl rfl (by decide) (Nat.le_of_ble_eq_true rfl) ?_
        refine ST_take (c := 59) (by omega) hT2 (fun M2 hE2 hT3 => ?_)
        exact hC M2 (hE.tr (hE2.sub (by decide))) (hE2 49 (by decide)) (by rw [if_neg (by omega)]; exact hT3)
    · have hok := Bool.eq_false_iff.mpr hok
      rw [hok]
      have e1 := roP_no hok (S 1 0 0 - i)
      rw [show i + (S 1 0 0 - i) = S 1 0 0 by omega] at e1
      refine g_if_ne_tt 61 dX8_readRoster_27 (by decide) ?_
      exact hend i M' (by omega) hE (by rw [e1]; exact hT2) (fun z => by rw [e1, hok] at z; cases z)
/-- the first, as they stand, whom one may not hold -/
def barB (S : BS) (f : Nat → Nat) (i : Nat) : Bool := !(f (sd S i) == 8) && !mayB S (f (sd S i)) (sd S i)
def barI (S : BS) (f : Nat → Nat) : Nat := fstN (barB S f) (S 1 0 0)
def barV (S : BS) (f : Nat → Nat) : Int32 := if barI S f = S 1 0 0 then -1 else nI (sd S (barI S f))
theorem SX_first {d : Nat} {M : Mm} {S : BS} {Q : Po} {f : Nat → Nat} (hB : BK M S) (hf : ∀ e, e < S 1 0 0 → M 49 e = hv (f e)) (hf8 : ∀ e, f e ≤ 8) (h : Q M (some (.int (barV S f)))) : Call (d + 3) mX_firstThatMayNotBe [.ref 43] M Q := by
  have hw := hB.wf.nd
  refine Call_of (m := mX_firstThatMayNotBe) [some (.ref 43), none, none] rfl (fun G => Nat.le_of_ble_eq_true rfl) (fun G => rfl) ?_
  refine g_iconst (nI 0) dX8_firstThatMayNotBe_0 ki_0 ?_
  refine g_ist3_1 dX8_firstThatMayNotBe_1 (by decide) rfl ?_
  refine loop_up (P := fun i => (∀ j, j < i → barB S f j = false) → Go mX_firstThatMayNotBe (d + 3) Q 2 [some (.ref 43), some (.int (nI i)), none] [] M) (S 1 0 0) ?_ 0 (Nat.zero_le _) (fun j hj => absurd hj (by omega))
  intro i hi ih hno
  refine g_iload_n dX8_firstThatMayNotBe_2 rfl ?_
  refine g_aload_n dX8_firstThatMayNotBe_3 rfl ?_
  refine g_getr (j := 0) dX8_firstThatMayNotBe_4 gc8 rfl (by decide) rfl (by decide) fl_X_30 ?_
  refine g_geti (j := 1) dX8_firstThatMayNotBe_7 gc0 rfl (by decide) rfl (by decide) fl_X_89 ?_
  try simp (disch := omega) only [hB.nd]
  refine g_icmp_ge_n 71 dX8_firstThatMayNotBe_10 (by decide) (by omega) (by omega) (fun c10 => ?_) (fun c10 => ?_)
  · have e1 : barI S f = S 1 0 0 := fstN_eq hno (by omega)
    rw [barV, if_pos e1] at h
    refine g_iconst ((-1)) dX8_firstThatMayNotBe_71 ki_m1 ?_
    refine g_ireturn dX8_firstThatMayNotBe_72 rfl (by first | rfl | exact nar_bI _) ?_
    exact h
  · have hsd := sd_lt (S := S) (k := i) (by omega)
    have h49 := hf (sd S i) hsd
    have h8 := hf8 (sd S i)
    have hnext : barB S f i = false → Go mX_firstThatMayNotBe (d + 3) Q 65 [some (.ref 43), some (.int (nI i)), some (.int (nI (sd S i)))] [] M := by
      intro hb
      first | refine g_incn3_1 dX8_firstThatMayNotBe_65 ki_1 (by decide) rfl ?_ | refine g_incg3_1 (nI 1) dX8_firstThatMayNotBe_65 ki_1 (by decide) rfl ?_
      refine g_goto 2 dX8_firstThatMayNotBe_68 (by decide) ?_
      refine Go_sub [some (.ref 43), some (.int (nI (i + 1))), none] (by simp [subL]) (ih (by omega) (fun j hj => ?_))
      by_cases e : j = i
      · rw [e]; exact hb
      · exact hno j (by omega)
    refine g_aload_n dX8_firstThatMayNotBe_13 rfl ?_
    refine g_getr (j := 0) dX8_firstThatMayNotBe_14 gc8 rfl (by decide) rfl (by decide) fl_X_30 ?_
    refine g_iload_n dX8_firstThatMayNotBe_17 rfl ?_
    refine g_call1 dX8_firstThatMayNotBe_18 clB_dutyAt ml_X_95 gc0 rfl rfl (by decide) (Nat.le_of_ble_eq_true rfl) ?_
    refine SB_dutyAt hB (by omega) ?_
    refine g_ist3_2 dX8_firstThatMayNotBe_21 (by decide) rfl ?_
    refine g_aload_n dX8_firstThatMayNotBe_22 rfl ?_
    refine g_getr (j := 0) dX8_firstThatMayNotBe_23 gc8 rfl (by decide) rfl (by decide) fl_X_30 ?_
    refine g_iload_n dX8_firstThatMayNotBe_26 rfl ?_
    refine g_call1 dX8_firstThatMayNotBe_27 clB_isDuty ml_X_104 gc0 rfl rfl (by decide) (Nat.le_of_ble_eq_true rfl) ?_
    refine SB_isDutyT hB hsd ?_
    refine g_if_eq_tt 65 dX8_firstThatMayNotBe_30 (by decide) ?_
    refine g_aload_n dX8_firstThatMayNotBe_33 rfl ?_
    refine g_getr (j := 7) dX8_firstThatMayNotBe_34 gc8 rfl (by decide) rfl (by decide) fl_X_27 ?_
    refine g_iload_n dX8_firstThatMayNotBe_37 rfl ?_
    refine g_iald_n dX8_firstThatMayNotBe_38 (by first | rfl | assumption) (by first | decide | assumption) (by omega) (by omega) ?_
    try simp (disch := omega) only [h49]
    refine g_iconst ((-1)) dX8_firstThatMayNotBe_39 ki_m1 ?_
    refine g_icmp_ne 46 dX8_firstThatMayNotBe_40 (by decide) (fun c40 => ?_) (fun c40 => ?_)
    · rw [hv_open _ h8] at c40
      refine g_aload_n dX8_firstThatMayNotBe_46 rfl ?_
      refine g_getr (j := 0) dX8_firstThatMayNotBe_47 gc8 rfl (by decide) rfl (by decide) fl_X_30 ?_
      refine g_aload_n dX8_firstThatMayNotBe_50 rfl ?_
      refine g_getr (j := 7) dX8_firstThatMayNotBe_51 gc8 rfl (by decide) rfl (by decide) fl_X_27 ?_
      refine g_iload_n dX8_firstThatMayNotBe_54 rfl ?_
      refine g_iald_n dX8_firstThatMayNotBe_55 (by first | rfl | assumption) (by first | decide | assumption) (by omega) (by omega) ?_
      try simp (disch := omega) only [h49]
      refine g_iload_n dX8_firstThatMayNotBe_56 rfl ?_
      refine g_call2 dX8_firstThatMayNotBe_57 clB_mayHold ml_X_119 gc0 rfl rfl (by decide) (Nat.le_of_ble_eq_true rfl) ?_
      rw [hv_p (p := f (sd S i)) (by omega)]
      refine SB_mayHold hB (by omega) hsd ?_
      refine g_if_ne_b 65 dX8_firstThatMayNotBe_60 (by decide) (fun c60 => ?_) (fun c60 => ?_)
      · refine hnext ?_
        unfold barB
        rw [c60]
        simp
      · have hb : barB S f i = true := by
          unfold barB
          rw [c60]
          simp [c40]
        have e1 : barI S f = i := fstN_hit hno hb (by omega)
        rw [barV, e1, if_neg (by omega)] at h
        refine g_iload_n dX8_firstThatMayNotBe_63 rfl ?_
        refine g_ireturn dX8_firstThatMayNotBe_64 rfl (by first | rfl | exact nar_bI _) ?_
        exact h
    · rw [hv_open _ h8] at c40
      refine g_goto 65 dX8_firstThatMayNotBe_43 (by decide) ?_
      refine hnext ?_
      unfold barB
      rw [c40]
      rfl
def hoS (S : BS) (f : Nat → Nat) (k : Nat) : BS := fun a b c => if a = 12 ∧ c = 0 ∧ b < k then f b else S a b c
theorem hoS_oth {S : BS} {f : Nat → Nat} {k a : Nat} (h : a ≠ 12) : hoS S f k a = S a := by
  funext b c
  unfold hoS
  rw [if_neg (fun z => h z.1)]
theorem hoS_ho {S : BS} {f : Nat → Nat} {k b : Nat} (h : b < k) : hoS S f k 12 b 0 = f b := by
  unfold hoS
  rw [if_pos ⟨rfl, rfl, h⟩]
theorem hoS_0 (S : BS) (f : Nat → Nat) : hoS S f 0 = S := by
  funext a b c
  unfold hoS
  rw [if_neg (by omega)]
theorem hoS_step (S : BS) (f : Nat → Nat) (k : Nat) : hoS S f (k + 1) = up (hoS S f k) 12 k 0 (f k) := by
  funext a b c
  by_cases z : a = 12 ∧ b = k ∧ c = 0
  · obtain ⟨rfl, rfl, rfl⟩ := z
    rw [up_at, hoS_ho (by omega)]
  · rw [up_off z]
    unfold hoS
    by_cases y : a = 12 ∧ c = 0 ∧ b < k
    · rw [if_pos y, if_pos (by omega)]
    · rw [if_neg y, if_neg (by omega)]
theorem SX_holdAsPlanned {d : Nat} {M : Mm} {S : BS} {Q : Po} {f : Nat → Nat} (hB : BK M S) (hf : ∀ e, e < S 1 0 0 → M 49 e = hv (f e)) (hf8 : ∀ e, f e ≤ 8) (h : ∀ M', EqO [2] M M' → BK M' (hoS S f (S 1 0 0)) → Q M' none) : Call (d + 3) mX_holdAsPlanned [.ref 43] M Q := by
  have hw := hB.wf.nd
  refine Call_of (m := mX_holdAsPlanned) [some (.ref 43), none] rfl (fun G => Nat.le_of_ble_eq_true rfl) (fun G => rfl) ?_
  refine g_iconst (nI 0) dX8_holdAsPlanned_0 ki_0 ?_
  refine g_ist2_1 dX8_holdAsPlanned_1 (by decide) rfl ?_
  refine loop_up (P := fun i => ∀ M', EqO [2] M M' → BK M' (hoS S f i) → Go mX_holdAsPlanned (d + 3) Q 2 [some (.ref 43), some (.int (nI i))] [] M') (S 1 0 0) ?_ 0 (Nat.zero_le _) M EqO.rf (by rw [hoS_0]; exact hB)
  intro i hi ih M' hE hB'
  have e1 : ∀ k, hoS S f k 1 0 0 = S 1 0 0 := fun k => by rw [hoS_oth (by decide)]
  refine g_iload_n dX8_holdAsPlanned_2 rfl ?_
  refine g_aload_n dX8_holdAsPlanned_3 rfl ?_
  refine g_getr (j := 0) dX8_holdAsPlanned_4 gc8 rfl (by decide) rfl (by decide) fl_X_30 ?_
  refine g_geti (j := 1) dX8_holdAsPlanned_7 gc0 rfl (by decide) rfl (by decide) fl_X_89 ?_
  try simp (disch := omega) only [hB'.nd, e1]
  refine g_icmp_ge_n 39 dX8_holdAsPlanned_10 (by decide) (by omega) (by omega) (fun c10 => ?_) (fun c10 => ?_)
  · refine g_return dX8_holdAsPlanned_39 rfl ?_
    rw [show i = S 1 0 0 by omega] at hB'
    exact h M' hE hB'
  · refine g_iload_n dX8_holdAsPlanned_13 rfl ?_
    refine g_bipush (nI 24) dX8_holdAsPlanned_14 kb_24 ?_
    refine g_icmp_ge_n 39 dX8_holdAsPlanned_16 (by decide) (by omega) (by omega) (fun c16 => ?_) (fun c16 => ?_)
    · exact absurd hw (by omega)
    · have h49 : M' 49 i = hv (f i) := by rw [hE 49 (by decide)]; exact hf i (by omega)
      refine g_aload_n dX8_holdAsPlanned_19 rfl ?_
      refine g_getr (j := 0) dX8_holdAsPlanned_20 gc8 rfl (by decide) rfl (by decide) fl_X_30 ?_
      refine g_iload_n dX8_holdAsPlanned_23 rfl ?_
      refine g_aload_n dX8_holdAsPlanned_24 rfl ?_
      refine g_getr (j := 7) dX8_holdAsPlanned_25 gc8 rfl (by decide) rfl (by decide) fl_X_27 ?_
      refine g_iload_n dX8_holdAsPlanned_28 rfl ?_
      refine g_iald_n dX8_holdAsPlanned_29 (by first | rfl | assumption) (by first | decide | assumption) (by omega) (by omega) ?_
      try simp (disch := omega) only [h49]
      refine g_call2 dX8_holdAsPlanned_30 clB_putHolder ml_X_123 gc0 rfl rfl (by decide) (Nat.le_of_ble_eq_true rfl) ?_
      refine SB_putHolder hB' (by rw [e1]; omega) ?_
      first | refine g_incn2_1 dX8_holdAsPlanned_33 ki_1 (by decide) rfl ?_ | refine g_incg2_1 (nI 1) dX8_holdAsPlanned_33 ki_1 (by decide) rfl ?_
      refine g_goto 2 dX8_holdAsPlanned_36 (by decide) ?_
      refine ih (by omega) _ (hE.tr (EqO.set (by decide))) ?_
      rw [hoS_step]
      exact hB'.hol1 (by rw [e1]; omega) (hf8 i)
/-- the first place at which two rows aren't alike -/
def cmpI (v w : Nat → Nat) (n : Nat) : Nat := fstN (fun j => !(v j == w j)) n
def cmpV (v w : Nat → Nat) (n : Nat) : Int32 := if cmpI v w n = n then nI 0 else if v (cmpI v w n) < w (cmpI v w n) then -1 else nI 1
theorem SL_compare {d : Nat} {M : Mm} {S : BS} {Q : Po} {f : Nat → Nat} (hB : BK M S) (hf : ∀ e, e < S 1 0 0 → M 49 e = hv (f e)) (hf8 : ∀ e, f e ≤ 8) {k : Nat} (hk : k < 4) (h : ∀ M', EqO [28, 29] M M' → Q M' (some (.int (cmpV (vecV S f k (S 0 0 0)) (vecV S (hoF S) k (S 0 0 0)) (cnt (hr S) (S 0 0 0)))))) : Call (d + 5) mL_compareWithNow [.ref 27, .ref 49, .int (nI k)] M Q := by
  have hw := hB.wf.np
  have hcl := cnt_le (hr S) (S 0 0 0)
  have hv1 := vecV_le hB.wf f hk (n := S 0 0 0) (Nat.le_refl _)
  have hv2 := vecV_le hB.wf (hoF S) hk (n := S 0 0 0) (Nat.le_refl _)
  refine Call_of (m := mL_compareWithNow) [some (.ref 27), some (.ref 49), some (.int (nI k)), none, none] rfl (fun G => Nat.le_of_ble_eq_true rfl) (fun G => rfl) ?_
  refine g_aload_n dX2_compareWithNow_0 rfl ?_
  refine g_aload_n dX2_compareWithNow_1 rfl ?_
  refine g_getr (j := 1) dX2_compareWithNow_2 gc2 rfl (by decide) rfl (by decide) fl_L_9 ?_
  refine g_aload_n dX2_compareWithNow_5 rfl ?_
  refine g_getr (j := 0) dX2_compareWithNow_6 gc2 rfl (by decide) rfl (by decide) fl_L_21 ?_
  refine g_getr (j := 3) dX2_compareWithNow_9 gc0 rfl (by decide) rfl (by decide) fl_L_25 ?_
  refine g_iload_n dX2_compareWithNow_12 rfl ?_
  refine g_call3 dX2_compareWithNow_13 clL_makeVector ml_L_30 gc2 rfl rfl (by decide) (Nat.le_of_ble_eq_true rfl) ?_
  refine SL_make2 hB hk (fun M1 hE1 hr1 => ?_)
  refine g_ist5_3 dX2_compareWithNow_16 (by decide) rfl ?_
  refine g_aload_n dX2_compareWithNow_17 rfl ?_
  refine g_aload_n dX2_compareWithNow_18 rfl ?_
  refine g_getr (j := 2) dX2_compareWithNow_19 gc2 rfl (by decide) rfl (by decide) fl_L_15 ?_
  refine g_aload_n dX2_compareWithNow_22 rfl ?_
  refine g_iload_n dX2_compareWithNow_23 rfl ?_
  refine g_call3 dX2_compareWithNow_24 clL_makeVector ml_L_30 gc2 rfl rfl (by decide) (Nat.le_of_ble_eq_true rfl) ?_
  refine SL_make_29 (hB.eqO hE1 (by decide)) f (fun i hi => by rw [hE1 49 (by decide)]; exact hf i hi) (fun i hi => hf8 i) hk (fun M2 hE2 hr2 => ?_)
  have h := h M2 ((hE1.sub (by decide)).tr (hE2.sub (by decide)))
  have hr1' : ∀ j, j < cnt (hr S) (S 0 0 0) → M2 28 j = nI (vecV S (hoF S) k (S 0 0 0) j) := fun j hj => by rw [hE2 28 (by decide)]; exact hr1 j hj
  generalize vecV S f k (S 0 0 0) = v at hr2 h hv1
  generalize vecV S (hoF S) k (S 0 0 0) = w at hr1' h hv2
  generalize cnt (hr S) (S 0 0 0) = n at hr1' hr2 h hv1 hv2 hcl ⊢
  refine g_pop dX2_compareWithNow_27 rfl ?_
  refine g_iconst (nI 0) dX2_compareWithNow_28 ki_0 ?_
  refine g_ist5_4 dX2_compareWithNow_29 (by decide) rfl ?_
  refine loop_up (P := fun i => (∀ j, j < i → (!(v j == w j)) = false) → Go mL_compareWithNow (d + 5) Q 31 [some (.ref 27), some (.ref 49), some (.int (nI k)), some (.int (nI n)), some (.int (nI i))] [] M2) n ?_ 0 (Nat.zero_le _) (fun j hj => absurd hj (by omega))
  intro i hi ih hno
  refine g_iload dX2_compareWithNow_31 rfl ?_
  refine g_iload_n dX2_compareWithNow_33 rfl ?_
  refine g_icmp_ge_n 90 dX2_compareWithNow_34 (by decide) (by omega) (by omega) (fun c34 => ?_) (fun c34 => ?_)
  · have e1 : cmpI v w n = n := fstN_eq (f := fun j => !(v j == w j)) hno (by omega)
    rw [cmpV, if_pos e1] at h
    refine g_iconst (nI 0) dX2_compareWithNow_90 ki_0 ?_
    refine g_ireturn dX2_compareWithNow_91 rfl (by first | rfl | exact nar_bI _) ?_
    exact h
  · have b1 := hv1 i (by omega)
    have b2 := hv2 i (by omega)
    refine g_iload dX2_compareWithNow_37 rfl ?_
    refine g_bipush (nI 8) dX2_compareWithNow_39 kb_8 ?_
    refine g_icmp_ge_n 90 dX2_compareWithNow_41 (by decide) (by omega) (by omega) (fun c41 => ?_) (fun c41 => ?_)
    · exact absurd hcl (by omega)
    · refine g_aload_n dX2_compareWithNow_44 rfl ?_
      refine g_getr (j := 2) dX2_compareWithNow_45 gc2 rfl (by decide) rfl (by decide) fl_L_15 ?_
      refine g_iload dX2_compareWithNow_48 rfl ?_
      refine g_iald_n dX2_compareWithNow_50 (by first | rfl | assumption) (by first | decide | assumption) (by omega) (by omega) ?_
      try simp (disch := omega) only [hr1', hr2]
      refine g_aload_n dX2_compareWithNow_51 rfl ?_
      refine g_getr (j := 1) dX2_compareWithNow_52 gc2 rfl (by decide) rfl (by decide) fl_L_9 ?_
      refine g_iload dX2_compareWithNow_55 rfl ?_
      refine g_iald_n dX2_compareWithNow_57 (by first | rfl | assumption) (by first | decide | assumption) (by omega) (by omega) ?_
      try simp (disch := omega) only [hr1', hr2]
      refine g_icmp_eq_n 84 dX2_compareWithNow_58 (by decide) (by omega) (by omega) (fun c58 => ?_) (fun c58 => ?_)
      · first | refine g_incn5_4 dX2_compareWithNow_84 ki_1 (by decide) rfl ?_ | refine g_incg5_4 (nI 1) dX2_compareWithNow_84 ki_1 (by decide) rfl ?_
        refine g_goto 31 dX2_compareWithNow_87 (by decide) ?_
        refine ih (by omega) (fun j hj => ?_)
        by_cases e : j = i
        · rw [e, c58]; simp
        · exact hno j (by omega)
      · have e1 : cmpI v w n = i := fstN_hit (f := fun j => !(v j == w j)) hno (by simp [c58]) (by omega)
        rw [cmpV, e1, if_neg (by omega)] at h
        refine g_aload_n dX2_compareWithNow_61 rfl ?_
        refine g_getr (j := 2) dX2_compareWithNow_62 gc2 rfl (by decide) rfl (by decide) fl_L_15 ?_
        refine g_iload dX2_compareWithNow_65 rfl ?_
        refine g_iald_n dX2_compareWithNow_67 (by first | rfl | assumption) (by first | decide | assumption) (by omega) (by omega) ?_
        try simp (disch := omega) only [hr1', hr2]
        refine g_aload_n dX2_compareWithNow_68 rfl ?_
        refine g_getr (j := 1) dX2_compareWithNow_69 gc2 rfl (by decide) rfl (by decide) fl_L_9 ?_
        refine g_iload dX2_compareWithNow_72 rfl ?_
        refine g_iald_n dX2_compareWithNow_74 (by first | rfl | assumption) (by first | decide | assumption) (by omega) (by omega) ?_
        try simp (disch := omega) only [hr1', hr2]
        refine g_icmp_ge_n 82 dX2_compareWithNow_75 (by decide) (by omega) (by omega) (fun c75 => ?_) (fun c75 => ?_)
        · rw [if_neg (by omega)] at h
          refine g_iconst (nI 1) dX2_compareWithNow_82 ki_1 ?_
          refine g_ireturn dX2_compareWithNow_83 rfl (by first | rfl | exact nar_bI _) ?_
          exact h
        · rw [if_pos (by omega)] at h
          refine g_iconst ((-1)) dX2_compareWithNow_78 ki_m1 ?_
          refine g_goto 83 dX2_compareWithNow_79 (by decide) ?_
          refine g_ireturn dX2_compareWithNow_83 rfl (by first | rfl | exact nar_bI _) ?_
          exact h
/-! judge, roster in the class -/
def jdO (S : BS) (f : Nat → Nat) : Nat := fstN (fun k => decide (heldN S 8 k < heldF S f 8 k)) 4
def jdW (S : BS) (f : Nat → Nat) (k : Nat) : Int32 := cmpV (vecV S f k (S 0 0 0)) (vecV S (hoF S) k (S 0 0 0)) (cnt (hr S) (S 0 0 0))
def jdC (S : BS) (f : Nat → Nat) : Nat := fstN (fun k => !(jdW S f k == nI 0)) 4
def jdV (S : BS) (f : Nat → Nat) : Int32 := if jdO S f = 4 then (if jdC S f = 4 then -5 else if jdW S f (jdC S f) < 0 then nI (200 + jdC S f) else nI (300 + jdC S f)) else nI (100 + jdO S f)
theorem SF_judgeLoads {d : Nat} {M : Mm} {S : BS} {Q : Po} {f : Nat → Nat} (hB : BK M S) (hf : ∀ e, e < S 1 0 0 → M 49 e = hv (f e)) (hf8 : ∀ e, f e ≤ 8) (h : ∀ M', EqO [28, 29] M M' → Q M' (some (.int (jdV S f)))) : Call (d + 6) mF_judgeLoads [.ref 0, .ref 49] M Q := by
  have hw := hB.wf.nd
  refine Call_of (m := mF_judgeLoads) [some (.ref 0), some (.ref 49), none, none] rfl (fun G => Nat.le_of_ble_eq_true rfl) (fun G => rfl) ?_
  refine g_iconst (nI 0) dX9_judgeLoads_0 ki_0 ?_
  refine g_ist4_2 dX9_judgeLoads_1 (by decide) rfl ?_
  refine loop_up (P := fun i => (∀ j, j < i → decide (heldN S 8 j < heldF S f 8 j) = false) → Go mF_judgeLoads (d + 6) Q 2 [some (.ref 0), some (.ref 49), some (.int (nI i)), none] [] M) 4 ?_ 0 (Nat.zero_le _) (fun j hj => absurd hj (by omega))
  intro i hi ih hno
  refine g_iload_n dX9_judgeLoads_2 rfl ?_
  refine g_iconst (nI 4) dX9_judgeLoads_3 ki_4 ?_
  refine g_icmp_ge_n 45 dX9_judgeLoads_4 (by decide) (by omega) (by omega) (fun c4 => ?_) (fun c4 => ?_)
  · have e1 : jdO S f = 4 := fstN_eq (f := fun k => decide (heldN S 8 k < heldF S f 8 k)) hno (by omega)
    rw [jdV, if_pos e1] at h
    refine g_iconst (nI 0) dX9_judgeLoads_45 ki_0 ?_
    refine g_ist4_2 dX9_judgeLoads_46 (by decide) rfl ?_
    refine loop_up (P := fun i => ∀ M', EqO [28, 29] M M' → (∀ j, j < i → (!(jdW S f j == nI 0)) = false) → Go mF_judgeLoads (d + 6) Q 47 [some (.ref 0), some (.ref 49), some (.int (nI i)), none] [] M') 4 ?_ 0 (Nat.zero_le _) M EqO.rf (fun j hj => absurd hj (by omega))
    intro i hi ih M' hE hno2
    refine g_iload_n dX9_judgeLoads_47 rfl ?_
    refine g_iconst (nI 4) dX9_judgeLoads_48 ki_4 ?_
    refine g_icmp_ge_n 88 dX9_judgeLoads_49 (by decide) (by omega) (by omega) (fun c49 => ?_) (fun c49 => ?_)
    · have e2 : jdC S f = 4 := fstN_eq (f := fun k => !(jdW S f k == nI 0)) hno2 (by omega)
      rw [if_pos e2] at h
      refine g_bipush ((-5)) dX9_judgeLoads_88 kb_m5 ?_
      refine g_ireturn dX9_judgeLoads_90 rfl (by first | rfl | exact nar_bI _) ?_
      exact h M' hE
    · refine g_aload_n dX9_judgeLoads_52 rfl ?_
      refine g_getr (j := 3) dX9_judgeLoads_53 gc9 rfl (by decide) rfl (by decide) fl_F_31 ?_
      refine g_aload_n dX9_judgeLoads_56 rfl ?_
      refine g_iload_n dX9_judgeLoads_57 rfl ?_
      refine g_call2 dX9_judgeLoads_58 clL_compareWithNow ml_F_343 gc2 rfl rfl (by decide) (Nat.le_of_ble_eq_true rfl) ?_
      refine SL_compare (f := f) (hB.eqO hE (by decide)) (fun e he => by rw [hE 49 (by decide)]; exact hf e he) hf8 (by omega) (fun M2 hE2 => ?_)
      rw [show cmpV (vecV S f i (S 0 0 0)) (vecV S (hoF S) i (S 0 0 0)) (cnt (hr S) (S 0 0 0)) = jdW S f i from rfl]
      refine g_ist4_3 dX9_judgeLoads_61 (by decide) rfl ?_
      refine g_iload_n dX9_judgeLoads_62 rfl ?_
      refine g_if_eq 82 dX9_judgeLoads_63 (by decide) (fun c63 => ?_) (fun c63 => ?_)
      · first | refine g_incn4_2 dX9_judgeLoads_82 ki_1 (by decide) rfl ?_ | refine g_incg4_2 (nI 1) dX9_judgeLoads_82 ki_1 (by decide) rfl ?_
        refine g_goto 47 dX9_judgeLoads_85 (by decide) ?_
        refine Go_sub [some (.ref 0), some (.ref 49), some (.int (nI (i + 1))), none] (by simp [subL]) (ih (by omega) M2 (hE.tr hE2) (fun j hj => ?_))
        by_cases e : j = i
        · rw [e, c63]; rfl
        · exact hno2 j (by omega)
      · have e2 : jdC S f = i := fstN_hit (f := fun k => !(jdW S f k == nI 0)) hno2 (by rw [Bool.not_eq_true', beq_eq_false_iff_ne]; exact c63) (by omega)
        rw [e2, if_neg (by omega)] at h
        refine g_iload_n dX9_judgeLoads_66 rfl ?_
        refine g_if_ge 76 dX9_judgeLoads_67 (by decide) (fun c67 => ?_) (fun c67 => ?_)
        · rw [if_neg (Int32.not_lt.mpr c67)] at h
          refine g_sipush (nI 300) dX9_judgeLoads_76 ks_300 ?_
          refine g_iload_n dX9_judgeLoads_79 rfl ?_
          first | refine g_iadd_n dX9_judgeLoads_80 ?_ | refine g_iadd dX9_judgeLoads_80 ?_
          refine g_ireturn dX9_judgeLoads_81 rfl (by first | rfl | exact nar_bI _) ?_
          exact h M2 (hE.tr hE2)
        · rw [if_pos (Int32.not_le.mp c67)] at h
          refine g_sipush (nI 200) dX9_judgeLoads_70 ks_200 ?_
          refine g_goto 79 dX9_judgeLoads_73 (by decide) ?_
          refine g_iload_n dX9_judgeLoads_79 rfl ?_
          first | refine g_iadd_n dX9_judgeLoads_80 ?_ | refine g_iadd dX9_judgeLoads_80 ?_
          refine g_ireturn dX9_judgeLoads_81 rfl (by first | rfl | exact nar_bI _) ?_
          exact h M2 (hE.tr hE2)
  · have hl1 := heldF_le S f 8 i
    have hl2 : heldN S 8 i ≤ S 1 0 0 := heldF_le S _ 8 i
    refine g_aload_n dX9_judgeLoads_7 rfl ?_
    refine g_getr (j := 0) dX9_judgeLoads_8 gc9 rfl (by decide) rfl (by decide) fl_F_13 ?_
    refine g_aload_n dX9_judgeLoads_11 rfl ?_
    refine g_iload_n dX9_judgeLoads_12 rfl ?_
    refine g_call2 dX9_judgeLoads_13 clB_countOpenBy ml_F_306 gc0 rfl rfl (by decide) (Nat.le_of_ble_eq_true rfl) ?_
    refine SB_countOpenBy_49 hB f hf (fun i _ => hf8 i) (by omega) ?_
    refine g_aload_n dX9_judgeLoads_16 rfl ?_
    refine g_getr (j := 0) dX9_judgeLoads_17 gc9 rfl (by decide) rfl (by decide) fl_F_13 ?_
    refine g_aload_n dX9_judgeLoads_20 rfl ?_
    refine g_getr (j := 0) dX9_judgeLoads_21 gc9 rfl (by decide) rfl (by decide) fl_F_13 ?_
    refine g_getr (j := 3) dX9_judgeLoads_24 gc0 rfl (by decide) rfl (by decide) fl_F_302 ?_
    refine g_iload_n dX9_judgeLoads_27 rfl ?_
    refine g_call2 dX9_judgeLoads_28 clB_countOpenBy ml_F_306 gc0 rfl rfl (by decide) (Nat.le_of_ble_eq_true rfl) ?_
    refine SB_countOpenBy_2 hB (fun e => S 12 e 0) (fun i hi => hB.ho hi) (fun i hi => (hB.wf.dk (by omega)).2.2) (by omega) ?_
    rw [show heldF S (fun e => S 12 e 0) 8 i = heldN S 8 i from rfl]
    refine g_icmp_le_n 39 dX9_judgeLoads_31 (by decide) (by omega) (by omega) (fun c31 => ?_) (fun c31 => ?_)
    · first | refine g_incn4_2 dX9_judgeLoads_39 ki_1 (by decide) rfl ?_ | refine g_incg4_2 (nI 1) dX9_judgeLoads_39 ki_1 (by decide) rfl ?_
      refine g_goto 2 dX9_judgeLoads_42 (by decide) ?_
      refine ih (by omega) (fun j hj => ?_)
      by_cases e : j = i
      · rw [e]; exact decide_eq_false (by omega)
      · exact hno j (by omega)
    · have e2 : jdO S f = i := fstN_hit (f := fun k => decide (heldN S 8 k < heldF S f 8 k)) hno (decide_eq_true (by omega)) (by omega)
      rw [jdV, e2, if_neg (by omega)] at h
      refine g_bipush (nI 100) dX9_judgeLoads_34 kb_100 ?_
      refine g_iload_n dX9_judgeLoads_36 rfl ?_
      first | refine g_iadd_n dX9_judgeLoads_37 ?_ | refine g_iadd dX9_judgeLoads_37 ?_
      refine g_ireturn dX9_judgeLoads_38 rfl (by first | rfl | exact nar_bI _) ?_
      exact h M EqO.rf
theorem SF_readsRoster {d : Nat} {n : Nat} {t : Nat → Nat} {M : Mm} {S : BS} {Q : Po} (hB : BK M S) (hT : TPc n t M) (h0 : S 1 0 0 = 0 → Q (mset M 41 1 (nI 0)) (some (.int (bI false)))) (h1 : S 1 0 0 ≠ 0 → ∀ M', EqO [41, 49] M M' → TC n t M' (enS n (roP S n t (S 1 0 0)).1) → (okB (enS n (roP S n t (S 1 0 0)).1) = true → ∀ e, e < S 1 0 0 → M' 49 e = hv ((roP S n t (S 1 0 0)).2 e)) → Q M' (some (.int (bI true)))) : Call (d + 7) mF_readsRoster [.ref 0] M Q := by
  have hw := hB.wf.nd
  refine Call_of (m := mF_readsRoster) [some (.ref 0)] rfl (fun G => Nat.le_of_ble_eq_true rfl) (fun G => rfl) ?_
  refine g_aload_n dX9_readsRoster_0 rfl ?_
  refine g_getr (j := 0) dX9_readsRoster_1 gc9 rfl (by decide) rfl (by decide) fl_F_13 ?_
  refine g_geti (j := 1) dX9_readsRoster_4 gc0 rfl (by decide) rfl (by decide) fl_F_164 ?_
  try simp (disch := omega) only [hB.nd]
  refine g_if_ne_n 20 dX9_readsRoster_7 (by decide) (by omega) (fun c7 => ?_) (fun c7 => ?_)
  · refine g_aload_n dX9_readsRoster_20 rfl ?_
    refine g_getr (j := 7) dX9_readsRoster_21 gc9 rfl (by decide) rfl (by decide) fl_F_58 ?_
    refine g_call0 dX9_readsRoster_24 clX_readRoster ml_F_340 gc8 rfl rfl (by decide) (Nat.le_of_ble_eq_true rfl) ?_
    refine SX_readRoster hB hT (fun M' hE hT2 hv2 => ?_)
    refine g_iconst (nI 1) dX9_readsRoster_27 ki_1 ?_
    refine g_ireturn dX9_readsRoster_28 rfl (by first | rfl | exact nar_bI _) ?_
    exact h1 c7 M' hE hT2 hv2
  · refine g_aload_n dX9_readsRoster_10 rfl ?_
    refine g_getr (j := 6) dX9_readsRoster_11 gc9 rfl (by decide) rfl (by decide) fl_F_49 ?_
    refine g_call0 dX9_readsRoster_14 clT_wipe ml_F_158 gc7 rfl rfl (by decide) (Nat.le_of_ble_eq_true rfl) ?_
    refine ST_wipe ?_
    refine g_pop dX9_readsRoster_17 rfl ?_
    refine g_iconst (nI 0) dX9_readsRoster_18 ki_0 ?_
    refine g_ireturn dX9_readsRoster_19 rfl (by first | rfl | exact nar_bI _) ?_
    exact h0 c7
theorem ro_8 {S : BS} (hW : WF S) {n : Nat} {t : Nat → Nat} {i : Nat} (h : okB (roP S n t i).1 = true) (e : Nat) : (roP S n t i).2 e ≤ 8 := by
  rcases roP_ok h e with z | z
  · omega
  · have := hr_np hW z
    have := hW.np
    omega
def f_judge (S : BS) (n : Nat) (t : Nat → Nat) : Int32 × BS × Bool := (if S 1 0 0 = 0 then -3 else if okB (enS n (roP S n t (S 1 0 0)).1) = true then (if barI S (roP S n t (S 1 0 0)).2 = S 1 0 0 then jdV S (roP S n t (S 1 0 0)).2 else barV S (roP S n t (S 1 0 0)).2) else clV (nI 0) (enS n (roP S n t (S 1 0 0)).1), S, false)
theorem SF_judge (M : Mm) (S : BS) (n : Nat) (t : Nat → Nat) (Q : Po) (hB : BK M S) (hH : HM S) (hT : TPc n t M) (h : ∀ M', FxC M M' → BK M' (f_judge S n t).2.1 → M' 41 1 = (if (f_judge S n t).2.2 = true then nI n else nI 0) → Q M' (some (.int (f_judge S n t).1))) : Call 60 mF_judge [.ref 0] M Q := by
  have hw := hB.wf.nd
  unfold f_judge at h
  dsimp only at h
  refine Call_of (m := mF_judge) [some (.ref 0), none] rfl (fun G => Nat.le_of_ble_eq_true rfl) (fun G => rfl) ?_
  refine g_aload_n dX9_judge_0 rfl ?_
  refine g_call0 dX9_judge_1 clF_readsRoster ml_F_275 gc9 rfl rfl (by decide) (Nat.le_of_ble_eq_true rfl) ?_
  refine SF_readsRoster hB hT (fun z => ?_) (fun z M1 hE1 hT1 hv1 => ?_)
  · rw [if_pos z] at h
    refine g_if_ne_ff 10 dX9_judge_4 (by decide) ?_
    refine g_bipush ((-3)) dX9_judge_7 kb_m3 ?_
    refine g_ireturn dX9_judge_9 rfl (by first | rfl | exact nar_bI _) ?_
    refine h _ (FxC.of (L := [41]) (EqO.set (by decide)) (by decide)) (hB.off (fun k k1 k2 => mset_ne (by omega))) ?_
    rw [mset_at]; rfl
  · rw [if_neg z] at h
    refine g_if_ne_tt 10 dX9_judge_4 (by decide) ?_
    refine g_aload_n dX9_judge_10 rfl ?_
    refine g_getr (j := 6) dX9_judge_11 gc9 rfl (by decide) rfl (by decide) fl_F_49 ?_
    refine g_call0 dX9_judge_14 clT_isFaulty ml_F_145 gc7 rfl rfl (by decide) (Nat.le_of_ble_eq_true rfl) ?_
    refine ST_isFaulty hT1 ?_
    have hB1 : BK M1 S := hB.eqO hE1 (by decide)
    by_cases hok : okB (enS n (roP S n t (S 1 0 0)).1) = true
    · rw [if_pos hok] at h
      have hf8 := ro_8 hB.wf (ok_en hok).1
      have hv1 := hv1 hok
      generalize (roP S n t (S 1 0 0)).2 = f at h hf8 hv1
      rw [hok]
      refine g_if_eq_ff 25 dX9_judge_17 (by decide) ?_
      refine g_aload_n dX9_judge_25 rfl ?_
      refine g_getr (j := 6) dX9_judge_26 gc9 rfl (by decide) rfl (by decide) fl_F_49 ?_
      refine g_call0 dX9_judge_29 clT_wipe ml_F_158 gc7 rfl rfl (by decide) (Nat.le_of_ble_eq_true rfl) ?_
      refine ST_wipe ?_
      have hB2 : BK (mset M1 41 1 (nI 0)) S := hB1.off (fun k k1 k2 => mset_ne (by omega))
      have hf2 : ∀ e, e < S 1 0 0 → mset M1 41 1 (nI 0) 49 e = hv (f e) := fun e he => by rw [mset_ne (by decide)]; exact hv1 e he
      refine g_pop dX9_judge_32 rfl ?_
      refine g_aload_n dX9_judge_33 rfl ?_
      refine g_getr (j := 7) dX9_judge_34 gc9 rfl (by decide) rfl (by decide) fl_F_58 ?_
      refine g_call0 dX9_judge_37 clX_firstThatMayNotBe ml_F_278 gc8 rfl rfl (by decide) (Nat.le_of_ble_eq_true rfl) ?_
      refine SX_first hB2 hf2 hf8 ?_
      by_cases hb : barI S f = S 1 0 0
      · rw [if_pos hb] at h
        rw [barV, if_pos hb]
        refine g_ist2_1 dX9_judge_40 (by decide) rfl ?_
        refine g_iload_n dX9_judge_41 rfl ?_
        refine g_iconst ((-1)) dX9_judge_42 ki_m1 ?_
        refine g_icmp_eq 50 dX9_judge_43 (by decide) (fun c43 => ?_) (fun c43 => ?_)
        · refine g_aload_n dX9_judge_50 rfl ?_
          refine g_aload_n dX9_judge_51 rfl ?_
          refine g_getr (j := 7) dX9_judge_52 gc9 rfl (by decide) rfl (by decide) fl_F_58 ?_
          refine g_call0 dX9_judge_55 clX_planned ml_F_281 gc8 rfl rfl (by decide) (Nat.le_of_ble_eq_true rfl) ?_
          refine Call_of (m := mX_planned) [some (.ref 43)] rfl (fun G => Nat.le_of_ble_eq_true rfl) (fun G => rfl) ?_
          refine g_aload_n dX8_planned_0 rfl ?_
          refine g_getr (j := 7) dX8_planned_1 gc8 rfl (by decide) rfl (by decide) fl_X_27 ?_
          refine g_areturn dX8_planned_4 rfl (Or.inr ⟨_, rfl⟩) ?_
          refine g_call1 dX9_judge_58 clF_judgeLoads ml_F_285 gc9 rfl rfl (by decide) (Nat.le_of_ble_eq_true rfl) ?_
          refine SF_judgeLoads hB2 hf2 hf8 (fun M3 hE3 => ?_)
          refine g_ireturn dX9_judge_61 rfl (by first | rfl | exact nar_bI _) ?_
          refine h M3 (FxC.of (L := [28, 29, 41, 49]) ((hE1.sub (by decide)).tr ((EqO.set (by decide)).tr (hE3.sub (by decide)))) (by decide)) (hB2.eqO hE3 (by decide)) ?_
          rw [hE3 41 (by decide), mset_at]; rfl
        · exact absurd rfl c43
      · rw [if_neg hb] at h
        have hbl : barI S f ≤ S 1 0 0 := fstN_le _ _
        have hsd := sd_lt (S := S) (k := barI S f) (by omega)
        have hbe : barV S f = nI (sd S (barI S f)) := by rw [barV, if_neg hb]
        rw [hbe] at h ⊢
        refine g_ist2_1 dX9_judge_40 (by decide) rfl ?_
        refine g_iload_n dX9_judge_41 rfl ?_
        refine g_iconst ((-1)) dX9_judge_42 ki_m1 ?_
        refine g_icmp_eq 50 dX9_judge_43 (by decide) (fun c43 => ?_) (fun c43 => ?_)
        · exact absurd c43 (nI_m1 (by omega))
        · refine g_iload_n dX9_judge_46 rfl ?_
          refine g_goto 61 dX9_judge_47 (by decide) ?_
          refine g_ireturn dX9_judge_61 rfl (by first | rfl | exact nar_bI _) ?_
          refine h _ (FxC.of (L := [41, 49]) (hE1.tr (EqO.set (by decide))) (by decide)) hB2 ?_
          rw [mset_at]; rfl
    · have hok := Bool.eq_false_iff.mpr hok
      rw [if_neg (c := okB (enS n (roP S n t (S 1 0 0)).1) = true) (by rw [hok]; decide)] at h
      rw [hok]
      generalize enS n (roP S n t (S 1 0 0)).1 = q at hok hT1 h
      cases q with
      | inl a => cases hok
      | inr f =>
        refine g_if_eq_tt 25 dX9_judge_17 (by decide) ?_
        refine g_aload_n dX9_judge_20 rfl ?_
        refine g_call0 dX9_judge_21 clF_faultAnswer ml_F_149 gc9 rfl rfl (by decide) (Nat.le_of_ble_eq_true rfl) ?_
        refine SF_faultAnswer hT1 ?_
        refine g_ireturn dX9_judge_24 rfl (by first | rfl | exact nar_bI _) ?_
        refine h (mset M1 41 1 (nI 0)) (FxC.of (L := [41, 49]) (hE1.tr (EqO.set (by decide))) (by decide)) (hB1.off (fun k k1 k2 => mset_ne (by omega))) ?_
        rw [mset_at]; rfl
def f_roster (S : BS) (n : Nat) (t : Nat → Nat) : Int32 × BS × Bool := if S 1 0 0 = 0 then (-3, S, false) else if okB (enS n (roP S n t (S 1 0 0)).1) = true then (if barI S (roP S n t (S 1 0 0)).2 = S 1 0 0 then (nI (S 1 0 0 - heldAll (hoS S (roP S n t (S 1 0 0)).2 (S 1 0 0)) 8), hoS S (roP S n t (S 1 0 0)).2 (S 1 0 0), false) else (-7, S, false)) else (clV (nI 0) (enS n (roP S n t (S 1 0 0)).1), S, false)
theorem heldAll_le {S : BS} (hW : WF S) (q : Nat) : heldAll S q ≤ S 1 0 0 := by
  rw [heldAll_8 hW]
  exact cnt_le _ _
theorem SF_roster (M : Mm) (S : BS) (n : Nat) (t : Nat → Nat) (Q : Po) (hB : BK M S) (hH : HM S) (hT : TPc n t M) (h : ∀ M', FxC M M' → BK M' (f_roster S n t).2.1 → M' 41 1 = (if (f_roster S n t).2.2 = true then nI n else nI 0) → Q M' (some (.int (f_roster S n t).1))) : Call 60 mF_roster [.ref 0] M Q := by
  have hw := hB.wf.nd
  unfold f_roster at h
  refine Call_of (m := mF_roster) [some (.ref 0)] rfl (fun G => Nat.le_of_ble_eq_true rfl) (fun G => rfl) ?_
  refine g_aload_n dX9_roster_0 rfl ?_
  refine g_call0 dX9_roster_1 clF_readsRoster ml_F_275 gc9 rfl rfl (by decide) (Nat.le_of_ble_eq_true rfl) ?_
  refine SF_readsRoster hB hT (fun z => ?_) (fun z M1 hE1 hT1 hv1 => ?_)
  · rw [if_pos z] at h
    refine g_if_ne_ff 10 dX9_roster_4 (by decide) ?_
    refine g_bipush ((-3)) dX9_roster_7 kb_m3 ?_
    refine g_ireturn dX9_roster_9 rfl (by first | rfl | exact nar_bI _) ?_
    refine h _ (FxC.of (L := [41]) (EqO.set (by decide)) (by decide)) (hB.off (fun k k1 k2 => mset_ne (by omega))) ?_
    rw [mset_at]; rfl
  · rw [if_neg z] at h
    refine g_if_ne_tt 10 dX9_roster_4 (by decide) ?_
    refine g_aload_n dX9_roster_10 rfl ?_
    refine g_getr (j := 6) dX9_roster_11 gc9 rfl (by decide) rfl (by decide) fl_F_49 ?_
    refine g_call0 dX9_roster_14 clT_isFaulty ml_F_145 gc7 rfl rfl (by decide) (Nat.le_of_ble_eq_true rfl) ?_
    refine ST_isFaulty hT1 ?_
    have hB1 : BK M1 S := hB.eqO hE1 (by decide)
    by_cases hok : okB (enS n (roP S n t (S 1 0 0)).1) = true
    · rw [if_pos hok] at h
      have hf8 := ro_8 hB.wf (ok_en hok).1
      have hv1 := hv1 hok
      generalize (roP S n t (S 1 0 0)).2 = f at h hf8 hv1
      rw [hok]
      refine g_if_eq_ff 25 dX9_roster_17 (by decide) ?_
      refine g_aload_n dX9_roster_25 rfl ?_
      refine g_getr (j := 6) dX9_roster_26 gc9 rfl (by decide) rfl (by decide) fl_F_49 ?_
      refine g_call0 dX9_roster_29 clT_wipe ml_F_158 gc7 rfl rfl (by decide) (Nat.le_of_ble_eq_true rfl) ?_
      refine ST_wipe ?_
      have hB2 : BK (mset M1 41 1 (nI 0)) S := hB1.off (fun k k1 k2 => mset_ne (by omega))
      have hf2 : ∀ e, e < S 1 0 0 → mset M1 41 1 (nI 0) 49 e = hv (f e) := fun e he => by rw [mset_ne (by decide)]; exact hv1 e he
      refine g_pop dX9_roster_32 rfl ?_
      refine g_aload_n dX9_roster_33 rfl ?_
      refine g_getr (j := 7) dX9_roster_34 gc9 rfl (by decide) rfl (by decide) fl_F_58 ?_
      refine g_call0 dX9_roster_37 clX_firstThatMayNotBe ml_F_278 gc8 rfl rfl (by decide) (Nat.le_of_ble_eq_true rfl) ?_
      refine SX_first hB2 hf2 hf8 ?_
      by_cases hb : barI S f = S 1 0 0
      · rw [if_pos hb] at h
        dsimp only at h
        rw [barV, if_pos hb]
        refine g_iconst ((-1)) dX9_roster_40 ki_m1 ?_
        refine g_icmp_eq 47 dX9_roster_41 (by decide) (fun c41 => ?_) (fun c41 => ?_)
        · refine g_aload_n dX9_roster_47 rfl ?_
          refine g_getr (j := 7) dX9_roster_48 gc9 rfl (by decide) rfl (by decide) fl_F_58 ?_
          refine g_call0 dX9_roster_51 clX_holdAsPlanned ml_F_289 gc8 rfl rfl (by decide) (Nat.le_of_ble_eq_true rfl) ?_
          refine SX_holdAsPlanned hB2 hf2 hf8 (fun M3 hE3 hB3 => ?_)
          have e1 : hoS S f (S 1 0 0) 1 0 0 = S 1 0 0 := by rw [hoS_oth (by decide)]
          have hle := heldAll_le hB3.wf 8
          rw [e1] at hle
          refine g_aload_n dX9_roster_54 rfl ?_
          refine g_getr (j := 0) dX9_roster_55 gc9 rfl (by decide) rfl (by decide) fl_F_13 ?_
          refine g_geti (j := 1) dX9_roster_58 gc0 rfl (by decide) rfl (by decide) fl_F_164 ?_
          try simp (disch := omega) only [hB3.nd, e1]
          refine g_aload_n dX9_roster_61 rfl ?_
          refine g_getr (j := 0) dX9_roster_62 gc9 rfl (by decide) rfl (by decide) fl_F_13 ?_
          refine g_call0 dX9_roster_65 clB_countOpen ml_F_244 gc0 rfl rfl (by decide) (Nat.le_of_ble_eq_true rfl) ?_
          refine SB_countOpen hB3 ?_
          first | refine g_isub_n dX9_roster_68 (by omega) ?_ | refine g_isub dX9_roster_68 ?_
          refine g_ireturn dX9_roster_69 rfl (by first | rfl | exact nar_bI _) ?_
          refine h M3 (FxC.of (L := [2, 41, 49]) ((hE1.sub (by decide)).tr ((EqO.set (by decide)).tr (hE3.sub (by decide)))) (by decide)) hB3 ?_
          rw [hE3 41 (by decide), mset_at]; rfl
        · exact absurd rfl c41
      · rw [if_neg hb] at h
        dsimp only at h
        have hbl : barI S f ≤ S 1 0 0 := fstN_le _ _
        have hsd := sd_lt (S := S) (k := barI S f) (by omega)
        rw [barV, if_neg hb]
        refine g_iconst ((-1)) dX9_roster_40 ki_m1 ?_
        refine g_icmp_eq 47 dX9_roster_41 (by decide) (fun c41 => ?_) (fun c41 => ?_)
        · exact absurd c41 (nI_m1 (by omega))
        · refine g_bipush ((-7)) dX9_roster_44 kb_m7 ?_
          refine g_ireturn dX9_roster_46 rfl (by first | rfl | exact nar_bI _) ?_
          refine h _ (FxC.of (L := [41, 49]) (hE1.tr (EqO.set (by decide))) (by decide)) hB2 ?_
          rw [mset_at]; rfl
    · have hok := Bool.eq_false_iff.mpr hok
      rw [if_neg (by rw [hok]; decide)] at h
      rw [hok]
      generalize enS n (roP S n t (S 1 0 0)).1 = q at hok hT1 h
      cases q with
      | inl a => cases hok
      | inr f =>
        refine g_if_eq_tt 25 dX9_roster_17 (by decide) ?_
        refine g_aload_n dX9_roster_20 rfl ?_
        refine g_call0 dX9_roster_21 clF_faultAnswer ml_F_149 gc9 rfl rfl (by decide) (Nat.le_of_ble_eq_true rfl) ?_
        refine SF_faultAnswer hT1 ?_
        refine g_ireturn dX9_roster_24 rfl (by first | rfl | exact nar_bI _) ?_
        refine h (mset M1 41 1 (nI 0)) (FxC.of (L := [41, 49]) (hE1.tr (EqO.set (by decide))) (by decide)) (hB1.off (fun k k1 k2 => mset_ne (by omega))) ?_
        rw [mset_at]; rfl
/-! rosters read in the reference -/
theorem TM.set_r {n : Nat} {t : Nat → Nat} {M : Mm} {f b : Nat} (h : TM n t M (.inr f)) (hb : b ≤ n) : TM n t (mset M 57 20 (nI b)) (.inr f) := by
  refine ⟨h.1.eqT (EqT.set (by omega)), h.2.1, ?_, b, hb, ?_⟩
  · rw [mset_off (by omega)]; exact h.2.2.1
  · rw [mset_at]
theorem SM_readsRoster {d : Nat} {n : Nat} {t : Nat → Nat} {M : Mm} {S : BS} {Q : Po} (hM : MK (M 58) S) (hC : MC M) (hT : TPm n t M) (h : ∀ M', EqQ [62, 71] M M' → TM n t M' (roP S n t (S 1 0 0)).1 → (∀ j, j < S 1 0 0 → M' 62 j = nI (sd S j)) → (okB (roP S n t (S 1 0 0)).1 = true → ∀ e, e < S 1 0 0 → M' 71 e = hv ((roP S n t (S 1 0 0)).2 e)) → Q M' none) : Call (d + 6) mM_readsRoster [.ref 57] M Q := by
  have hw := hM.wf.nd
  refine Call_of (m := mM_readsRoster) [some (.ref 57), none, none] rfl (fun G => Nat.le_of_ble_eq_true rfl) (fun G => rfl) ?_
  refine g_aload_n dX10_readsRoster_0 rfl ?_
  refine g_call0 dX10_readsRoster_1 clM_opensTape ml_M_282 gc10 rfl rfl (by decide) (Nat.le_of_ble_eq_true rfl) ?_
  refine SM_opensTape hT (fun M0 hE0 hT0 => ?_)
  refine g_aload_n dX10_readsRoster_4 rfl ?_
  refine g_call0 dX10_readsRoster_5 clM_lines ml_M_103 gc10 rfl rfl (by decide) (Nat.le_of_ble_eq_true rfl) ?_
  refine SM_lines (by rw [hE0.row (by decide)]; exact hM) (fun M1 hE1 h62 => ?_)
  have hT1 : TM n t M1 (.inl 0) := hT0.off (hE1 69 (by decide)) (fun j _ => by rw [hE1 57 (by decide)])
  have hE01 : EqQ [62, 71] M M1 := (hE0.q.sub (by simp)).tr ((EqQ.ofO hE1).sub (by decide))
  refine g_iconst (nI 0) dX10_readsRoster_8 ki_0 ?_
  refine g_ist3_1 dX10_readsRoster_9 (by decide) rfl ?_
  refine loop_up (P := fun i => ∀ M', EqQ [62, 71] M M' → M' 62 = M1 62 → TM n t M' (roP S n t i).1 → (okB (roP S n t i).1 = true → ∀ j, j < i → M' 71 (sd S j) = hv ((roP S n t i).2 (sd S j))) → Go mM_readsRoster (d + 6) Q 10 [some (.ref 57), some (.int (nI i)), none] [] M') (S 1 0 0) ?_ 0 (Nat.zero_le _) M1 hE01 rfl hT1 (fun _ j hj => absurd hj (by omega))
  intro i hi ih M' hE hs62 hT2 hv2
  have hM' : MK (M' 58) S := by rw [hE.row (by decide) (by decide)]; exact hM
  refine g_iload_n dX10_readsRoster_10 rfl ?_
  refine g_aload_n dX10_readsRoster_11 rfl ?_
  refine g_getr (j := 0) dX10_readsRoster_12 gc10 rfl (by decide) rfl (by decide) fl_M_9 ?_
  refine g_iconst (nI 2) dX10_readsRoster_15 ki_2 ?_
  refine g_iald_n dX10_readsRoster_16 (by first | rfl | assumption) (by first | decide | assumption) (by omega) (by omega) ?_
  try simp (disch := omega) only [hM'.nd]
  refine g_icmp_ge_n 181 dX10_readsRoster_17 (by decide) (by omega) (by omega) (fun c17 => ?_) (fun c17 => ?_)
  · obtain rfl : i = S 1 0 0 := by omega
    refine g_return dX10_readsRoster_181 rfl ?_
    exact h M' hE hT2 (fun j hj => by rw [hs62]; exact h62 j hj) (fun hok e he => by
      obtain ⟨k, hk, e1⟩ := sd_onto he
      rw [← e1]
      exact hv2 hok k hk)
  · have es : M' 62 i = nI (sd S i) := by rw [hs62]; exact h62 i (by omega)
    have hsd := sd_lt (S := S) (k := i) (by omega)
    have hdk := hM.wf.dk (d := sd S i) (by omega)
    have hn := hT.1
    generalize hq : (if i = 0 then (roP S n t i).1 else mu n t 59 (roP S n t i).1) = q
    have hnext : ∀ M3, EqQ [62, 71] M M3 → M3 62 = M1 62 → TM n t M3 (hoP S n t (sd S i) q).1 → (∀ j, j ≠ sd S i → M3 71 j = M' 71 j) → (okB (hoP S n t (sd S i) q).1 = true → M3 71 (sd S i) = hv (hoP S n t (sd S i) q).2) → Go mM_readsRoster (d + 6) Q 175 [some (.ref 57), some (.int (nI i)), some (.int (nI (sd S i)))] [] M3 := by
      intro M3 hE3 hs3 hT4 ho3 hv3
      have hr1 : (roP S n t (i + 1)).1 = (hoP S n t (sd S i) q).1 := by rw [roP, hq]
      first | refine g_incn3_1 dX10_readsRoster_175 ki_1 (by decide) rfl ?_ | refine g_incg3_1 (nI 1) dX10_readsRoster_175 ki_1 (by decide) rfl ?_
      refine g_goto 10 dX10_readsRoster_178 (by decide) ?_
      refine Go_sub [some (.ref 57), some (.int (nI (i + 1))), none] (by simp [subL]) (ih (by omega) M3 hE3 hs3 (by rw [hr1]; exact hT4) (fun hok3 j hj => ?_))
      rw [hr1] at hok3
      rw [roP, hq]
      dsimp only
      by_cases z : sd S j = sd S i
      · rw [z, if_pos rfl]; exact hv3 hok3
      · rw [if_neg z, ho3 _ z]
        refine hv2 ?_ j ?_
        · have h1 := (hoP_ok hok3).1
          rw [← hq] at h1
          split at h1
          · exact h1
          · exact ok_mu h1
        · rcases Nat.lt_or_ge j i with y | y
          · exact y
          · exact absurd (by rw [show j = i by omega]) z
    have hbody : ∀ M2, EqQ [62, 71] M M2 → M2 62 = M1 62 → M2 71 = M' 71 → TM n t M2 q → Go mM_readsRoster (d + 6) Q 37 [some (.ref 57), some (.int (nI i)), some (.int (nI (sd S i)))] [] M2 := by
      intro M2 hE2 hs2 h71 hT3
      have hM2 : MK (M2 58) S := by rw [hE2.row (by decide) (by decide)]; exact hM
      clear ih hv2 hT2 hs62 h hE
      refine g_aload_n dX10_readsRoster_37 rfl ?_
      refine g_aload_n dX10_readsRoster_38 rfl ?_
      refine g_getr (j := 0) dX10_readsRoster_39 gc10 rfl (by decide) rfl (by decide) fl_M_9 ?_
      refine g_sipush (nI 251) dX10_readsRoster_42 ks_251 ?_
      refine g_iload_n dX10_readsRoster_45 rfl ?_
      first | refine g_iadd_n dX10_readsRoster_46 ?_ | refine g_iadd dX10_readsRoster_46 ?_
      refine g_iald_n dX10_readsRoster_47 (by first | rfl | assumption) (by first | decide | assumption) (by omega) (by omega) ?_
      try simp (disch := omega) only [hM2.dy]
      refine g_aload_n dX10_readsRoster_48 rfl ?_
      refine g_getr (j := 0) dX10_readsRoster_49 gc10 rfl (by decide) rfl (by decide) fl_M_9 ?_
      refine g_sipush (nI 251) dX10_readsRoster_52 ks_251 ?_
      refine g_iload_n dX10_readsRoster_55 rfl ?_
      first | refine g_iadd_n dX10_readsRoster_56 ?_ | refine g_iadd dX10_readsRoster_56 ?_
      refine g_iald_n dX10_readsRoster_57 (by first | rfl | assumption) (by first | decide | assumption) (by omega) (by omega) ?_
      try simp (disch := omega) only [hM2.dy]
      refine g_call2 dX10_readsRoster_58 clM_number ml_M_273 gc10 rfl rfl (by decide) (Nat.le_of_ble_eq_true rfl) ?_
      refine SM_number (lo := S 10 (sd S i) 0) (hi := S 10 (sd S i) 0) hT3 (fun _ => ⟨rfl, rfl⟩) (by omega) (by omega) (fun M3 v1 hE3 hT4 _ => ?_)
      have hM3 : MK (M3 58) S := by rw [hE3.row (by decide)]; exact hM2
      have hC3 : MC M3 := ⟨fun j hj => by rw [hE3.row (by decide), hE2.row (by decide) (by decide)]; exact hC.1 j hj, fun j hj => by rw [hE3.row (by decide), hE2.row (by decide) (by decide)]; exact hC.2 j hj⟩
      refine g_pop dX10_readsRoster_61 rfl ?_
      refine g_aload_n dX10_readsRoster_62 rfl ?_
      refine g_aload_n dX10_readsRoster_63 rfl ?_
      refine g_getr (j := 3) dX10_readsRoster_64 gc10 rfl (by decide) rfl (by decide) fl_M_16 ?_
      refine g_aload_n dX10_readsRoster_67 rfl ?_
      refine g_getr (j := 0) dX10_readsRoster_68 gc10 rfl (by decide) rfl (by decide) fl_M_9 ?_
      refine g_sipush (nI 275) dX10_readsRoster_71 ks_275 ?_
      refine g_iload_n dX10_readsRoster_74 rfl ?_
      first | refine g_iadd_n dX10_readsRoster_75 ?_ | refine g_iadd dX10_readsRoster_75 ?_
      refine g_iald_n dX10_readsRoster_76 (by first | rfl | assumption) (by first | decide | assumption) (by omega) (by omega) ?_
      try simp (disch := omega) only [hM3.kd, hC3.lw]
      refine g_iald_n dX10_readsRoster_77 (by first | rfl | assumption) (by first | decide | assumption) (by omega) (by omega) ?_
      try simp (disch := omega) only [hM3.kd, hC3.lw]
      refine g_call1 dX10_readsRoster_78 clM_must ml_M_276 gc10 rfl rfl (by decide) (Nat.le_of_ble_eq_true rfl) ?_
      refine SM_must (lw_ge (by omega)) hT4 (fun M4 hE4 hT5 => ?_)
      refine g_aload_n dX10_readsRoster_81 rfl ?_
      refine g_bipush (nI 61) dX10_readsRoster_82 kb_61 ?_
      refine g_call1 dX10_readsRoster_84 clM_must ml_M_276 gc10 rfl rfl (by decide) (Nat.le_of_ble_eq_true rfl) ?_
      refine SM_must (c := 61) (by omega) hT5 (fun M5 hE5 hT6 => ?_)
      refine g_aload_n dX10_readsRoster_87 rfl ?_
      refine g_getr (j := 27) dX10_readsRoster_88 gc10 rfl (by decide) rfl (by decide) fl_M_50 ?_
      refine g_iload_n dX10_readsRoster_91 rfl ?_
      refine g_iconst ((-1)) dX10_readsRoster_92 ki_m1 ?_
      refine g_iast_n dX10_readsRoster_93 (by first | rfl | assumption) (by first | decide | assumption) (by omega) (by omega) ?_
      refine g_aload_n dX10_readsRoster_94 rfl ?_
      refine g_bipush (nI 45) dX10_readsRoster_95 kb_45 ?_
      refine g_call1 dX10_readsRoster_97 clM_takes ml_M_257 gc10 rfl rfl (by decide) (Nat.le_of_ble_eq_true rfl) ?_
      refine SM_takes (c := 45) (q := hoQ S n t (sd S i) q) (by omega) (hT6.off (mset_ne (by decide)) (fun j hj => by rw [mset_ne (by decide)])) (fun M6 hE6 hT7 => ?_)
      have hE7 : EqQ [62, 71] M M6 := ((hE2.tr (hE3.q.sub (by simp))).tr ((hE4.q.sub (by simp)).tr (hE5.q.sub (by simp)))).tr ((EqQ.set (by decide)).tr (hE6.q.sub (by simp)))
      have hs6 : M6 62 = M1 62 := by rw [hE6.row (by decide), mset_ne (by decide), hE5.row (by decide), hE4.row (by decide), hE3.row (by decide)]; exact hs2
      have e71 : M6 71 = upd (M' 71) (sd S i) (-1) := by rw [hE6.row (by decide), mset_same, hE5.row (by decide), hE4.row (by decide), hE3.row (by decide), h71]
      have hM6 : MK (M6 58) S := by rw [hE7.row (by decide) (by decide)]; exact hM
      unfold hoP at hnext
      by_cases c : tk n t 45 (hoQ S n t (sd S i) q) = true
      · rw [if_pos c] at hnext
        rw [c]
        refine g_if_ne_tt 175 dX10_readsRoster_100 (by decide) ?_
        refine hnext M6 hE7 hs6 hT7 (fun j hj => by rw [e71, upd_off hj]) (fun _ => ?_)
        rw [e71, upd_at]
        rfl
      · rw [if_neg c] at hnext
        dsimp only at hnext
        have c := Bool.eq_false_iff.mpr c
        rw [tkS_f c] at hT7
        rw [c]
        generalize hoQ S n t (sd S i) q = q3 at hnext hT7
        have ht3 := hT7.1.2.1
        refine g_if_ne_ff 175 dX10_readsRoster_100 (by decide) ?_
        refine g_aload_n dX10_readsRoster_103 rfl ?_
        refine g_getr (j := 27) dX10_readsRoster_104 gc10 rfl (by decide) rfl (by decide) fl_M_50 ?_
        refine g_iload_n dX10_readsRoster_107 rfl ?_
        refine g_aload_n dX10_readsRoster_108 rfl ?_
        refine g_call0 dX10_readsRoster_109 clM_here ml_M_254 gc10 rfl rfl (by decide) (Nat.le_of_ble_eq_true rfl) ?_
        refine SM_here hT7 ?_
        refine g_bipush (nI 48) dX10_readsRoster_112 kb_48 ?_
        refine g_isub dX10_readsRoster_114 ?_
        refine g_iast_n dX10_readsRoster_115 (by first | rfl | assumption) (by first | decide | assumption) (by omega) (by omega) ?_
        refine g_aload_n dX10_readsRoster_116 rfl ?_
        refine g_call0 dX10_readsRoster_117 clM_here ml_M_254 gc10 rfl rfl (by decide) (Nat.le_of_ble_eq_true rfl) ?_
        generalize hM8 : mset M6 71 (sd S i) (hrV n t q3 - nI 48) = M8
        have hT8 : TM n t M8 q3 := by rw [← hM8]; exact hT7.off (mset_ne (by decide)) (fun j hj => by rw [mset_ne (by decide)])
        have hE8 : EqQ [62, 71] M M8 := by rw [← hM8]; exact hE7.tr (EqQ.set (by decide))
        have hs8 : M8 62 = M1 62 := by rw [← hM8, mset_ne (by decide)]; exact hs6
        have e718 : M8 71 = upd (M' 71) (sd S i) (hrV n t q3 - nI 48) := by
          rw [← hM8, mset_same, e71]
          funext j
          by_cases z : j = sd S i
          · subst z; rw [upd_at, upd_at]
          · rw [upd_off z, upd_off z, upd_off z]
        have hM8k : MK (M8 58) S := by rw [hE8.row (by decide) (by decide)]; exact hM
        clear hM8
        have hfail : fhS S n t q3 = flA q3 → Go mM_readsRoster (d + 6) Q 146 [some (.ref 57), some (.int (nI i)), some (.int (nI (sd S i)))] [] M8 := by
          intro hfl
          rw [hfl] at hnext
          refine g_aload_n dX10_readsRoster_146 rfl ?_
          refine g_aload_n dX10_readsRoster_147 rfl ?_
          refine g_geti (j := 20) dX10_readsRoster_148 gc10 rfl (by decide) rfl (by decide) fl_M_251 ?_
          try simp (disch := omega) only [hM3.kd, hC3.lw]
          refine g_call1 dX10_readsRoster_151 clM_faults ml_M_260 gc10 rfl rfl (by decide) (Nat.le_of_ble_eq_true rfl) ?_
          refine SM_faultsA hT8 rfl (fun M9 hE9 hT9 => ?_)
          obtain ⟨f, hf⟩ : ∃ f, flA q3 = .inr f := by
            cases q3 with
            | inl b => exact ⟨b, rfl⟩
            | inr f => exact ⟨f, rfl⟩
          rw [hf] at hT9 hnext
          obtain ⟨a9, ha9, e209, _⟩ := hT9.at
          have e219 : M9 57 21 = nI f := hT9.2.2.1
          have hf9 : f ≤ n := hT9.2.1
          refine g_aload_n dX10_readsRoster_154 rfl ?_
          refine g_dup dX10_readsRoster_155 rfl ?_
          refine g_geti (j := 20) dX10_readsRoster_156 gc10 rfl (by decide) rfl (by decide) fl_M_251 ?_
          try simp (disch := omega) only [e209, e219]
          refine g_aload_n dX10_readsRoster_159 rfl ?_
          refine g_geti (j := 21) dX10_readsRoster_160 gc10 rfl (by decide) rfl (by decide) fl_M_248 ?_
          try simp (disch := omega) only [e209, e219]
          refine g_if_ge_n 170 dX10_readsRoster_163 (by decide) (by omega) ?_
          refine g_iconst (nI 0) dX10_readsRoster_170 ki_0 ?_
          first | refine g_iadd_n dX10_readsRoster_171 ?_ | refine g_iadd dX10_readsRoster_171 ?_
          refine g_puti (j := 20) dX10_readsRoster_172 gc10 rfl (by decide) rfl (by decide) fl_M_251 rfl (tyX10_ok 20 (by decide)) (by first | rfl | exact nar_bI _) rfl ?_
          refine hnext _ ((hE8.tr (hE9.q.sub (by simp))).tr (EqQ.set57 (by omega))) ?_ (hT9.set_r (b := a9 + 0) (by omega)) (fun j hj => ?_) (fun z => by cases z)
          · rw [mset_ne (by decide), hE9.row (by decide)]; exact hs8
          · rw [mset_ne (by decide), hE9.row (by decide), e718, upd_off hj]
        refine SM_here hT8 ?_
        refine g_i2l dX10_readsRoster_120 ?_
        refine g_ldc2w (48) dX10_readsRoster_121 kl_M_266 ?_
        refine g_ldc2w (57) dX10_readsRoster_124 kl_M_268 ?_
        refine g_calls3 dX10_readsRoster_127 clM_in ml_M_68 (Nat.le_of_ble_eq_true rfl) ?_
        refine SM_in _ _ _ ?_
        cases q3 with
        | inr f =>
          rw [show inJ (hrV n t (.inr f)).toInt64 48 57 = false from by simp only [hrV]; decide]
          refine g_if_eq_ff 146 dX10_readsRoster_130 (by decide) ?_
          exact hfail rfl
        | inl b =>
          rw [inJ_dg ht3]
          have hb : b ≤ n := hT8.2.1
          have e20 : M8 57 20 = nI b := hT8.2.2.1
          have e21 : M8 57 21 = -1 := hT8.2.2.2
          by_cases c130 : dgt (tb n t b) = true
          · have hd : 48 ≤ tb n t b ∧ tb n t b ≤ 57 := of_decide_eq_true c130
            have hlt := tb_lt (n := n) (t := t) (i := b) rfl (by omega)
            have ev : M8 71 (sd S i) = nI (tb n t b - 48) := by
              rw [e718, upd_at, hrV_tb hlt, nI_sub (by omega)]
            rw [c130]
            refine g_if_eq_tt 146 dX10_readsRoster_130 (by decide) ?_
            refine g_aload_n dX10_readsRoster_133 rfl ?_
            refine g_aload_n dX10_readsRoster_134 rfl ?_
            refine g_getr (j := 27) dX10_readsRoster_135 gc10 rfl (by decide) rfl (by decide) fl_M_50 ?_
            refine g_iload_n dX10_readsRoster_138 rfl ?_
            refine g_iald_n dX10_readsRoster_139 (by first | rfl | assumption) (by first | decide | assumption) (by omega) (by omega) ?_
            try simp (disch := omega) only [ev]
            refine g_call1 dX10_readsRoster_140 clM_isHere ml_M_100 gc10 rfl rfl (by decide) (Nat.le_of_ble_eq_true rfl) ?_
            refine SM_isHere hM8k (by omega) ?_
            by_cases c143 : hr S (tb n t b - 48) = true
            · rw [c143]
              have hfh : fhS S n t (.inl b) = .inl (b + 1) := by
                simp only [fhS]
                rw [if_pos ⟨c130, c143⟩]
              rw [hfh] at hnext
              have h8 := hr_np hM.wf c143
              have hw8 := hM.wf.np
              refine g_if_ne_tt 154 dX10_readsRoster_143 (by decide) ?_
              refine g_aload_n dX10_readsRoster_154 rfl ?_
              refine g_dup dX10_readsRoster_155 rfl ?_
              refine g_geti (j := 20) dX10_readsRoster_156 gc10 rfl (by decide) rfl (by decide) fl_M_251 ?_
              try simp (disch := omega) only [e20, e21]
              refine g_aload_n dX10_readsRoster_159 rfl ?_
              refine g_geti (j := 21) dX10_readsRoster_160 gc10 rfl (by decide) rfl (by decide) fl_M_248 ?_
              try simp (disch := omega) only [e20, e21]
              refine g_if_ge 170 dX10_readsRoster_163 (by decide) (fun c163 => ?_) (fun c163 => ?_)
              · exact absurd c163 (by decide)
              · refine g_iconst (nI 1) dX10_readsRoster_166 ki_1 ?_
                refine g_goto 171 dX10_readsRoster_167 (by decide) ?_
                first | refine g_iadd_n dX10_readsRoster_171 ?_ | refine g_iadd dX10_readsRoster_171 ?_
                refine g_puti (j := 20) dX10_readsRoster_172 gc10 rfl (by decide) rfl (by decide) fl_M_251 rfl (tyX10_ok 20 (by decide)) (by first | rfl | exact nar_bI _) rfl ?_
                refine hnext _ (hE8.tr (EqQ.set57 (by omega))) ?_ (hT8.set (by omega)) (fun j hj => ?_) (fun _ => ?_)
                · rw [mset_ne (by decide)]; exact hs8
                · rw [mset_ne (by decide), e718, upd_off hj]
                · rw [mset_ne (by decide), ev, show fgV n t (.inl b) = tb n t b - 48 from rfl, hv_p (by omega)]
            · have c143 := Bool.eq_false_iff.mpr c143
              rw [c143]
              refine g_if_ne_ff 154 dX10_readsRoster_143 (by decide) ?_
              refine hfail ?_
              simp only [fhS]
              rw [if_neg (fun y => by rw [c143] at y; cases y.2)]
              rfl
          · have c130 := Bool.eq_false_iff.mpr c130
            rw [c130]
            refine g_if_eq_ff 146 dX10_readsRoster_130 (by decide) ?_
            refine hfail ?_
            simp only [fhS]
            rw [if_neg (fun y => by rw [c130] at y; cases y.1)]
            rfl
    refine g_aload_n dX10_readsRoster_20 rfl ?_
    refine g_getr (j := 5) dX10_readsRoster_21 gc10 rfl (by decide) rfl (by decide) fl_M_22 ?_
    refine g_iload_n dX10_readsRoster_24 rfl ?_
    refine g_iald_n dX10_readsRoster_25 (by first | rfl | assumption) (by first | decide | assumption) (by omega) (by omega) ?_
    try simp (disch := omega) only [es]
    refine g_ist3_2 dX10_readsRoster_26 (by decide) rfl ?_
    refine g_iload_n dX10_readsRoster_27 rfl ?_
    refine g_if_le_n 37 dX10_readsRoster_28 (by decide) (by omega) (fun c28 => ?_) (fun c28 => ?_)
    · refine hbody M' hE hs62 rfl ?_
      rw [← hq, if_pos (by omega)]
      exact hT2
    · refine g_aload_n dX10_readsRoster_31 rfl ?_
      refine g_bipush (nI 59) dX10_readsRoster_32 kb_59 ?_
      refine g_call1 dX10_readsRoster_34 clM_must ml_M_276 gc10 rfl rfl (by decide) (Nat.le_of_ble_eq_true rfl) ?_
      refine SM_must (c := 59) (by omega) hT2 (fun M2 hE2 hT3 => ?_)
      refine hbody M2 (hE.tr (hE2.q.sub (by simp))) ((hE2.row (by decide)).trans hs62) (hE2.row (by decide)) ?_
      rw [← hq, if_neg (by omega)]
      exact hT3
