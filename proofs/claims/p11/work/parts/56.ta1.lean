/-! THE TAPE, read up to the first fault: pure; the class's reader -/
abbrev TS : Type := Nat ⊕ Nat
def tb (n : Nat) (t : Nat → Nat) (i : Nat) : Nat := if i < n then t i else 0
def okT : TS → Prop
  | .inl _ => True
  | .inr _ => False
def tk (n : Nat) (t : Nat → Nat) (c : Nat) : TS → Bool
  | .inl a => decide (tb n t a = c)
  | .inr _ => false
def tkS (n : Nat) (t : Nat → Nat) (c : Nat) : TS → TS
  | .inl a => if tb n t a = c then .inl (a + 1) else .inl a
  | .inr f => .inr f
def flA : TS → TS
  | .inl a => .inr a
  | .inr f => .inr f
def flS (p : Nat) : TS → TS
  | .inl _ => .inr p
  | .inr f => .inr f
def mu (n : Nat) (t : Nat → Nat) (c : Nat) : TS → TS
  | .inl a => if tb n t a = c then .inl (a + 1) else .inr a
  | .inr f => .inr f
def dgt (b : Nat) : Bool := decide (48 ≤ b ∧ b ≤ 57)
def nuG (n : Nat) (t : Nat → Nat) : Nat → Nat → Nat → Nat × Nat
  | 0, a, v => (a, v)
  | k + 1, a, v => if dgt (tb n t a) = true then nuG n t k (a + 1) (v * 10 + (tb n t a - 48)) else (a, v)
def nuS (n : Nat) (t : Nat → Nat) (lo hi : Nat) : TS → TS
  | .inl a => if (nuG n t 3 a 0).1 = a ∨ ¬ (lo ≤ (nuG n t 3 a 0).2 ∧ (nuG n t 3 a 0).2 ≤ hi) then .inr a else .inl (nuG n t 3 a 0).1
  | .inr f => .inr f
def nuV (n : Nat) (t : Nat → Nat) : TS → Nat
  | .inl a => (nuG n t 3 a 0).2
  | .inr _ => 0
def lwI (b : Nat) : Nat := if b = 104 then 0 else if b = 101 then 1 else if b = 110 then 2 else if b = 112 then 3 else 4
def kdS (n : Nat) (t : Nat → Nat) : TS → TS
  | .inl a => if lwI (tb n t a) < 4 then .inl (a + 1) else .inr a
  | .inr f => .inr f
def kdV (n : Nat) (t : Nat → Nat) : TS → Nat
  | .inl a => lwI (tb n t a)
  | .inr _ => 4
def enS (n : Nat) : TS → TS
  | .inl a => if a < n then .inr a else .inl a
  | .inr f => .inr f
theorem tb_lt {n : Nat} {t : Nat → Nat} {i c : Nat} (h : tb n t i = c) (hc : c ≠ 0) : i < n := by
  unfold tb at h
  split at h
  · assumption
  · exact absurd h.symm hc
theorem lwI_lw {k : Nat} (h : k < 4) : lwI (lw k) = k := by
  obtain rfl | rfl | rfl | rfl : k = 0 ∨ k = 1 ∨ k = 2 ∨ k = 3 := by omega
  · rfl
  · rfl
  · rfl
  · rfl
theorem lw_lwI {b : Nat} (h : lwI b < 4) : lw (lwI b) = b := by
  unfold lwI at h ⊢
  split
  · rename_i e; rw [e]; rfl
  · split
    · rename_i e; rw [e]; rfl
    · split
      · rename_i e; rw [e]; rfl
      · split
        · rename_i e; rw [e]; rfl
        · rename_i e1 e2 e3 e4
          rw [if_neg e1, if_neg e2, if_neg e3, if_neg e4] at h
          omega
theorem lwI_0 : lwI 0 = 4 := rfl
theorem lwI_le (b : Nat) : lwI b ≤ 4 := by
  unfold lwI
  split
  · omega
  · split
    · omega
    · split
      · omega
      · split <;> omega
/-- the bytes -/
def TPc (n : Nat) (t : Nat → Nat) (M : Mm) : Prop := n ≤ 150 ∧ (∀ i, i < n → 1 ≤ t i ∧ t i ≤ 127) ∧ M 41 1 = nI n ∧ ∀ i, i < n → M 42 i = nI (t i)
def STp (n : Nat) (x y : Int32) : TS → Prop
  | .inl a => a ≤ n ∧ x = nI a ∧ y = -1
  | .inr f => f ≤ n ∧ y = nI f ∧ ∃ a, a ≤ n ∧ x = nI a
def TC (n : Nat) (t : Nat → Nat) (M : Mm) (q : TS) : Prop := TPc n t M ∧ STp n (M 41 2) (M 41 3) q
theorem TPc.tb_le {n : Nat} {t : Nat → Nat} {M : Mm} (h : TPc n t M) (i : Nat) : tb n t i ≤ 127 := by
  unfold tb
  split
  · rename_i z; exact (h.2.1 i z).2
  · omega
theorem TPc.set {n : Nat} {t : Nat → Nat} {M : Mm} (h : TPc n t M) {j : Nat} {v : Int32} (hj : j ≠ 1) : TPc n t (mset M 41 j v) := by
  refine ⟨h.1, h.2.1, ?_, fun i hi => ?_⟩
  · rw [mset_off (by omega)]; exact h.2.2.1
  · rw [mset_off (by omega)]; exact h.2.2.2 i hi
theorem TC.set2 {n : Nat} {t : Nat → Nat} {M : Mm} {a b : Nat} (h : TC n t M (.inl a)) (hb : b ≤ n) : TC n t (mset M 41 2 (nI b)) (.inl b) := by
  refine ⟨h.1.set (by omega), hb, ?_, ?_⟩
  · rw [mset_at]
  · rw [mset_off (by omega)]; exact h.2.2.2
theorem TC.set2r {n : Nat} {t : Nat → Nat} {M : Mm} {f b : Nat} (h : TC n t M (.inr f)) (hb : b ≤ n) : TC n t (mset M 41 2 (nI b)) (.inr f) := by
  refine ⟨h.1.set (by omega), h.2.1, ?_, b, hb, ?_⟩
  · rw [mset_off (by omega)]; exact h.2.2.1
  · rw [mset_at]
theorem TC.set3 {n : Nat} {t : Nat → Nat} {M : Mm} {a b : Nat} (h : TC n t M (.inl a)) (hb : b ≤ n) : TC n t (mset M 41 3 (nI b)) (.inr b) := by
  refine ⟨h.1.set (by omega), hb, ?_, a, h.2.1, ?_⟩
  · rw [mset_at]
  · rw [mset_off (by omega)]; exact h.2.2.1
theorem TC.off {n : Nat} {t : Nat → Nat} {M M' : Mm} {q : TS} (h : TC n t M q) (h1 : M' 41 = M 41) (h2 : M' 42 = M 42) : TC n t M' q := by
  unfold TC TPc at h ⊢
  rw [h1, h2]
  exact h
/-- at, whatever the fault -/
theorem TC.at {n : Nat} {t : Nat → Nat} {M : Mm} {q : TS} (h : TC n t M q) : ∃ a, a ≤ n ∧ M 41 2 = nI a ∧ (∀ b, q = .inl b → b = a) := by
  cases q with
  | inl a => exact ⟨a, h.2.1, h.2.2.1, fun b e => by cases e; rfl⟩
  | inr f =>
    obtain ⟨a, h1, h2⟩ := h.2.2.2
    exact ⟨a, h1, h2, fun b e => by cases e⟩
theorem ST_byteHere {d : Nat} {n : Nat} {t : Nat → Nat} {M : Mm} {Q : Po} {a : Nat} (hT : TPc n t M) (ha : a ≤ n) (e2 : M 41 2 = nI a) (h : Q M (some (.int (nI (tb n t a))))) : Call (d + 1) mT_byteHere [.ref 41] M Q := by
  obtain ⟨hn, ht, e1, e4⟩ := hT
  unfold tb at h
  refine Call_of (m := mT_byteHere) [some (.ref 41)] rfl (fun G => Nat.le_of_ble_eq_true rfl) (fun G => rfl) ?_
  refine g_aload_n dX7_byteHere_0 rfl ?_
  refine g_geti (j := 2) dX7_byteHere_1 gc7 rfl (by decide) rfl (by decide) fl_T_19 ?_
  try simp (disch := omega) only [e1, e2, e4]
  refine g_if_lt_n 40 dX7_byteHere_4 (by decide) (by omega) ?_
  refine g_aload_n dX7_byteHere_7 rfl ?_
  refine g_geti (j := 2) dX7_byteHere_8 gc7 rfl (by decide) rfl (by decide) fl_T_19 ?_
  try simp (disch := omega) only [e1, e2, e4]
  refine g_aload_n dX7_byteHere_11 rfl ?_
  refine g_geti (j := 1) dX7_byteHere_12 gc7 rfl (by decide) rfl (by decide) fl_T_15 ?_
  try simp (disch := omega) only [e1, e2, e4]
  refine g_icmp_ge_n 40 dX7_byteHere_15 (by decide) (by omega) (by omega) (fun c15 => ?_) (fun c15 => ?_)
  · rw [if_neg (by omega)] at h
    refine g_iconst (nI 0) dX7_byteHere_40 ki_0 ?_
    refine g_ireturn dX7_byteHere_41 rfl (by first | rfl | exact nar_bI _) ?_
    exact h
  · rw [if_pos (by omega)] at h
    refine g_aload_n dX7_byteHere_18 rfl ?_
    refine g_geti (j := 2) dX7_byteHere_19 gc7 rfl (by decide) rfl (by decide) fl_T_19 ?_
    try simp (disch := omega) only [e1, e2, e4]
    refine g_sipush (nI 150) dX7_byteHere_22 ks_150 ?_
    refine g_icmp_ge_n 40 dX7_byteHere_25 (by decide) (by omega) (by omega) (fun c25 => ?_) (fun c25 => ?_)
    · exact absurd hn (by omega)
    · refine g_aload_n dX7_byteHere_28 rfl ?_
      refine g_getr (j := 0) dX7_byteHere_29 gc7 rfl (by decide) rfl (by decide) fl_T_9 ?_
      refine g_aload_n dX7_byteHere_32 rfl ?_
      refine g_geti (j := 2) dX7_byteHere_33 gc7 rfl (by decide) rfl (by decide) fl_T_19 ?_
      try simp (disch := omega) only [e1, e2, e4]
      refine g_iald_n dX7_byteHere_36 (by first | rfl | assumption) (by first | decide | assumption) (by omega) (by omega) ?_
      try simp (disch := omega) only [e1, e2, e4]
      refine g_goto 41 dX7_byteHere_37 (by decide) ?_
      refine g_ireturn dX7_byteHere_41 rfl (by first | rfl | exact nar_bI _) ?_
      exact h
theorem ST_takesIf {d : Nat} {n : Nat} {t : Nat → Nat} {M : Mm} {Q : Po} {c : Nat} {q : TS} (hc : 1 ≤ c ∧ c < 200) (hT : TC n t M q) (h : ∀ M', EqO [41] M M' → TC n t M' (tkS n t c q) → Q M' (some (.int (bI (tk n t c q))))) : Call (d + 2) mT_takesIf [.ref 41, .int (nI c)] M Q := by
  cases q with
  | inl a =>
    have e2 : M 41 2 = nI a := hT.2.2.1
    have e3 : M 41 3 = -1 := hT.2.2.2
    have ha : a ≤ n := hT.2.1
    have hb := hT.1.tb_le a
    simp only [tkS, tk] at h
    refine Call_of (m := mT_takesIf) [some (.ref 41), some (.int (nI c))] rfl (fun G => Nat.le_of_ble_eq_true rfl) (fun G => rfl) ?_
    refine g_aload_n dX7_takesIf_0 rfl ?_
    refine g_geti (j := 3) dX7_takesIf_1 gc7 rfl (by decide) rfl (by decide) fl_T_22 ?_
    try simp (disch := omega) only [e3]
    refine g_iconst ((-1)) dX7_takesIf_4 ki_m1 ?_
    refine g_icmp_ne 16 dX7_takesIf_5 (by decide) (fun c5 => ?_) (fun c5 => ?_)
    · exact absurd rfl c5
    · refine g_aload_n dX7_takesIf_8 rfl ?_
      refine g_call0 dX7_takesIf_9 clT_byteHere ml_T_25 gc7 rfl rfl (by decide) (Nat.le_of_ble_eq_true rfl) ?_
      refine ST_byteHere hT.1 ha e2 ?_
      refine g_iload_n dX7_takesIf_12 rfl ?_
      refine g_icmp_eq_n 18 dX7_takesIf_13 (by decide) (by omega) (by omega) (fun c13 => ?_) (fun c13 => ?_)
      · have ht := tb_lt c13 (by omega)
        rw [if_pos c13] at h
        refine g_aload_n dX7_takesIf_18 rfl ?_
        refine g_dup dX7_takesIf_19 rfl ?_
        refine g_geti (j := 2) dX7_takesIf_20 gc7 rfl (by decide) rfl (by decide) fl_T_19 ?_
        try simp (disch := omega) only [e2]
        refine g_iconst (nI 1) dX7_takesIf_23 ki_1 ?_
        first | refine g_iadd_n dX7_takesIf_24 ?_ | refine g_iadd dX7_takesIf_24 ?_
        refine g_puti (j := 2) dX7_takesIf_25 gc7 rfl (by decide) rfl (by decide) fl_T_19 rfl (tyX7_ok 2 (by decide)) (by first | rfl | exact nar_bI _) rfl ?_
        refine g_iconst (nI 1) dX7_takesIf_28 ki_1 ?_
        refine g_ireturn dX7_takesIf_29 rfl (by first | rfl | exact nar_bI _) ?_
        exact qb_t (h _ (EqO.set (by decide)) (hT.set2 (by omega))) (decide_eq_true c13)
      · rw [if_neg c13] at h
        refine g_iconst (nI 0) dX7_takesIf_16 ki_0 ?_
        refine g_ireturn dX7_takesIf_17 rfl (by first | rfl | exact nar_bI _) ?_
        exact qb_f (h M EqO.rf hT) (decide_eq_false c13)
  | inr f =>
    have e3 : M 41 3 = nI f := hT.2.2.1
    have hf : f ≤ n := hT.2.1
    have hn := hT.1.1
    refine Call_of (m := mT_takesIf) [some (.ref 41), some (.int (nI c))] rfl (fun G => Nat.le_of_ble_eq_true rfl) (fun G => rfl) ?_
    refine g_aload_n dX7_takesIf_0 rfl ?_
    refine g_geti (j := 3) dX7_takesIf_1 gc7 rfl (by decide) rfl (by decide) fl_T_22 ?_
    try simp (disch := omega) only [e3]
    refine g_iconst ((-1)) dX7_takesIf_4 ki_m1 ?_
    refine g_icmp_ne 16 dX7_takesIf_5 (by decide) (fun c5 => ?_) (fun c5 => ?_)
    · refine g_iconst (nI 0) dX7_takesIf_16 ki_0 ?_
      refine g_ireturn dX7_takesIf_17 rfl (by first | rfl | exact nar_bI _) ?_
      exact h M EqO.rf hT
    · exact absurd c5 (nI_m1 (by omega))
theorem ST_fail {d : Nat} {n : Nat} {t : Nat → Nat} {M : Mm} {Q : Po} {p : Nat} {x : Int32} {q : TS} (hT : TC n t M q) (hx : ∀ a, q = .inl a → x = nI p ∧ p ≤ n) (h : ∀ M', EqO [41] M M' → TC n t M' (flS p q) → Q M' none) : Call (d + 1) mT_fail [.ref 41, .int x] M Q := by
  cases q with
  | inl a =>
    obtain ⟨e, hp⟩ := hx a rfl
    have e3 : M 41 3 = -1 := hT.2.2.2
    refine Call_of (m := mT_fail) [some (.ref 41), some (.int x)] rfl (fun G => Nat.le_of_ble_eq_true rfl) (fun G => rfl) ?_
    refine g_aload_n dX7_fail_0 rfl ?_
    refine g_geti (j := 3) dX7_fail_1 gc7 rfl (by decide) rfl (by decide) fl_T_22 ?_
    try simp (disch := omega) only [e3]
    refine g_iconst ((-1)) dX7_fail_4 ki_m1 ?_
    refine g_icmp_ne 13 dX7_fail_5 (by decide) (fun c5 => ?_) (fun c5 => ?_)
    · exact absurd rfl c5
    · refine g_aload_n dX7_fail_8 rfl ?_
      refine g_iload_n dX7_fail_9 rfl ?_
      refine g_puti (j := 3) dX7_fail_10 gc7 rfl (by decide) rfl (by decide) fl_T_22 rfl (tyX7_ok 3 (by decide)) (by first | rfl | exact nar_bI _) rfl ?_
      refine g_return dX7_fail_13 rfl ?_
      rw [e]
      exact h _ (EqO.set (by decide)) (hT.set3 hp)
  | inr f =>
    have e3 : M 41 3 = nI f := hT.2.2.1
    have hf : f ≤ n := hT.2.1
    have hn := hT.1.1
    refine Call_of (m := mT_fail) [some (.ref 41), some (.int x)] rfl (fun G => Nat.le_of_ble_eq_true rfl) (fun G => rfl) ?_
    refine g_aload_n dX7_fail_0 rfl ?_
    refine g_geti (j := 3) dX7_fail_1 gc7 rfl (by decide) rfl (by decide) fl_T_22 ?_
    try simp (disch := omega) only [e3]
    refine g_iconst ((-1)) dX7_fail_4 ki_m1 ?_
    refine g_icmp_ne 13 dX7_fail_5 (by decide) (fun c5 => ?_) (fun c5 => ?_)
    · refine g_return dX7_fail_13 rfl ?_
      exact h M EqO.rf hT
    · exact absurd c5 (nI_m1 (by omega))
/-- a fault where it stands -/
theorem ST_failA {d : Nat} {n : Nat} {t : Nat → Nat} {M : Mm} {Q : Po} {x : Int32} {q : TS} (hT : TC n t M q) (hx : x = M 41 2) (h : ∀ M', EqO [41] M M' → TC n t M' (flA q) → Q M' none) : Call (d + 1) mT_fail [.ref 41, .int x] M Q := by
  cases q with
  | inl a => exact ST_fail (p := a) hT (fun b e => by cases e; exact ⟨hx.trans hT.2.2.1, hT.2.1⟩) h
  | inr f => exact ST_fail (p := 0) hT (fun b e => by cases e) h
theorem ST_start {d : Nat} {n : Nat} {t : Nat → Nat} {M : Mm} {Q : Po} (hT : TPc n t M) (h : ∀ M', EqO [41] M M' → TC n t M' (.inl 0) → Q M' none) : Call (d + 1) mT_start [.ref 41] M Q := by
  refine Call_of (m := mT_start) [some (.ref 41)] rfl (fun G => Nat.le_of_ble_eq_true rfl) (fun G => rfl) ?_
  refine g_aload_n dX7_start_0 rfl ?_
  refine g_iconst (nI 0) dX7_start_1 ki_0 ?_
  refine g_puti (j := 2) dX7_start_2 gc7 rfl (by decide) rfl (by decide) fl_T_19 rfl (tyX7_ok 2 (by decide)) (by first | rfl | exact nar_bI _) rfl ?_
  refine g_aload_n dX7_start_5 rfl ?_
  refine g_iconst ((-1)) dX7_start_6 ki_m1 ?_
  refine g_puti (j := 3) dX7_start_7 gc7 rfl (by decide) rfl (by decide) fl_T_22 rfl (tyX7_ok 3 (by decide)) (by first | rfl | exact nar_bI _) rfl ?_
  refine g_return dX7_start_10 rfl ?_
  refine h _ ((EqO.set (by decide)).tr (EqO.set (by decide))) ⟨(hT.set (by omega)).set (by omega), Nat.zero_le _, ?_, ?_⟩
  · rw [mset_off (by omega), mset_at]
  · rw [mset_at]
theorem ST_at {d : Nat} {M : Mm} {Q : Po} (h : Q M (some (.int (M 41 2)))) : Call (d + 1) mT_at [.ref 41] M Q := by
  refine Call_of (m := mT_at) [some (.ref 41)] rfl (fun G => Nat.le_of_ble_eq_true rfl) (fun G => rfl) ?_
  refine g_aload_n dX7_at_0 rfl ?_
  refine g_geti (j := 2) dX7_at_1 gc7 rfl (by decide) rfl (by decide) fl_T_19 ?_
  refine g_ireturn dX7_at_4 rfl (by first | rfl | exact nar_bI _) ?_
  exact h
theorem ST_fault {d : Nat} {M : Mm} {Q : Po} (h : Q M (some (.int (M 41 3)))) : Call (d + 1) mT_fault [.ref 41] M Q := by
  refine Call_of (m := mT_fault) [some (.ref 41)] rfl (fun G => Nat.le_of_ble_eq_true rfl) (fun G => rfl) ?_
  refine g_aload_n dX7_fault_0 rfl ?_
  refine g_geti (j := 3) dX7_fault_1 gc7 rfl (by decide) rfl (by decide) fl_T_22 ?_
  refine g_ireturn dX7_fault_4 rfl (by first | rfl | exact nar_bI _) ?_
  exact h
def okB : TS → Bool
  | .inl _ => true
  | .inr _ => false
theorem ST_isFaulty {d : Nat} {n : Nat} {t : Nat → Nat} {M : Mm} {Q : Po} {q : TS} (hT : TC n t M q) (h : Q M (some (.int (bI (!okB q))))) : Call (d + 1) mT_isFaulty [.ref 41] M Q := by
  cases q with
  | inl a =>
    have e3 : M 41 3 = -1 := hT.2.2.2
    refine Call_of (m := mT_isFaulty) [some (.ref 41)] rfl (fun G => Nat.le_of_ble_eq_true rfl) (fun G => rfl) ?_
    refine g_aload_n dX7_isFaulty_0 rfl ?_
    refine g_geti (j := 3) dX7_isFaulty_1 gc7 rfl (by decide) rfl (by decide) fl_T_22 ?_
    try simp (disch := omega) only [e3]
    refine g_iconst ((-1)) dX7_isFaulty_4 ki_m1 ?_
    refine g_icmp_eq 12 dX7_isFaulty_5 (by decide) (fun c5 => ?_) (fun c5 => ?_)
    · refine g_iconst (nI 0) dX7_isFaulty_12 ki_0 ?_
      refine g_ireturn dX7_isFaulty_13 rfl (by first | rfl | exact nar_bI _) ?_
      exact h
    · exact absurd rfl c5
  | inr f =>
    have e3 : M 41 3 = nI f := hT.2.2.1
    have hf : f ≤ n := hT.2.1
    have hn := hT.1.1
    refine Call_of (m := mT_isFaulty) [some (.ref 41)] rfl (fun G => Nat.le_of_ble_eq_true rfl) (fun G => rfl) ?_
    refine g_aload_n dX7_isFaulty_0 rfl ?_
    refine g_geti (j := 3) dX7_isFaulty_1 gc7 rfl (by decide) rfl (by decide) fl_T_22 ?_
    try simp (disch := omega) only [e3]
    refine g_iconst ((-1)) dX7_isFaulty_4 ki_m1 ?_
    refine g_icmp_eq 12 dX7_isFaulty_5 (by decide) (fun c5 => ?_) (fun c5 => ?_)
    · exact absurd c5 (nI_m1 (by omega))
    · refine g_iconst (nI 1) dX7_isFaulty_8 ki_1 ?_
      refine g_goto 13 dX7_isFaulty_9 (by decide) ?_
      refine g_ireturn dX7_isFaulty_13 rfl (by first | rfl | exact nar_bI _) ?_
      exact h
theorem ST_take {d : Nat} {n : Nat} {t : Nat → Nat} {M : Mm} {Q : Po} {c : Nat} {q : TS} (hc : 1 ≤ c ∧ c < 200) (hT : TC n t M q) (h : ∀ M', EqO [41] M M' → TC n t M' (mu n t c q) → Q M' none) : Call (d + 3) mT_take [.ref 41, .int (nI c)] M Q := by
  refine Call_of (m := mT_take) [some (.ref 41), some (.int (nI c))] rfl (fun G => Nat.le_of_ble_eq_true rfl) (fun G => rfl) ?_
  refine g_aload_n dX7_take_0 rfl ?_
  refine g_iload_n dX7_take_1 rfl ?_
  refine g_call1 dX7_take_2 clT_takesIf ml_T_29 gc7 rfl rfl (by decide) (Nat.le_of_ble_eq_true rfl) ?_
  refine ST_takesIf hc hT (fun M1 hE1 hT1 => ?_)
  refine g_if_ne_b 16 dX7_take_5 (by decide) (fun c5 => ?_) (fun c5 => ?_)
  · refine g_return dX7_take_16 rfl ?_
    refine h M1 hE1 ?_
    cases q with
    | inl a =>
      have c5 : tb n t a = c := of_decide_eq_true c5
      simp only [tkS, mu] at hT1 ⊢
      rw [if_pos c5] at hT1 ⊢
      exact hT1
    | inr f => cases c5
  · refine g_aload_n dX7_take_8 rfl ?_
    refine g_aload_n dX7_take_9 rfl ?_
    refine g_geti (j := 2) dX7_take_10 gc7 rfl (by decide) rfl (by decide) fl_T_19 ?_
    refine g_call1 dX7_take_13 clT_fail ml_T_33 gc7 rfl rfl (by decide) (Nat.le_of_ble_eq_true rfl) ?_
    refine ST_failA hT1 rfl (fun M2 hE2 hT2 => ?_)
    refine g_return dX7_take_16 rfl ?_
    refine h M2 (hE1.tr hE2) ?_
    cases q with
    | inl a =>
      have c5 : ¬ tb n t a = c := of_decide_eq_false c5
      simp only [tkS, mu] at hT2 ⊢
      rw [if_neg c5] at hT2 ⊢
      exact hT2
    | inr f => exact hT2
theorem ST_end {d : Nat} {n : Nat} {t : Nat → Nat} {M : Mm} {Q : Po} {q : TS} (hT : TC n t M q) (h : ∀ M', EqO [41] M M' → TC n t M' (enS n q) → Q M' none) : Call (d + 2) mT_end [.ref 41] M Q := by
  obtain ⟨a, ha, e2, ea⟩ := hT.at
  have hb := hT.1.tb_le a
  refine Call_of (m := mT_end) [some (.ref 41)] rfl (fun G => Nat.le_of_ble_eq_true rfl) (fun G => rfl) ?_
  refine g_aload_n dX7_end_0 rfl ?_
  refine g_call0 dX7_end_1 clT_byteHere ml_T_25 gc7 rfl rfl (by decide) (Nat.le_of_ble_eq_true rfl) ?_
  refine ST_byteHere hT.1 ha e2 ?_
  refine g_if_eq_n 15 dX7_end_4 (by decide) (by omega) (fun c4 => ?_) (fun c4 => ?_)
  · refine g_return dX7_end_15 rfl ?_
    refine h M EqO.rf ?_
    cases q with
    | inl b =>
      obtain rfl := ea b rfl
      simp only [enS]
      rw [if_neg (fun z => ?_)]
      · exact hT
      · unfold tb at c4
        rw [if_pos z] at c4
        have := (hT.1.2.1 b z).1
        omega
    | inr f => exact hT
  · refine g_aload_n dX7_end_7 rfl ?_
    refine g_aload_n dX7_end_8 rfl ?_
    refine g_geti (j := 2) dX7_end_9 gc7 rfl (by decide) rfl (by decide) fl_T_19 ?_
    refine g_call1 dX7_end_12 clT_fail ml_T_33 gc7 rfl rfl (by decide) (Nat.le_of_ble_eq_true rfl) ?_
    refine ST_failA hT rfl (fun M2 hE2 hT2 => ?_)
    refine g_return dX7_end_15 rfl ?_
    refine h M2 hE2 ?_
    cases q with
    | inl b =>
      obtain rfl := ea b rfl
      simp only [enS]
      rw [if_pos (tb_lt rfl c4)]
      exact hT2
    | inr f => exact hT2
