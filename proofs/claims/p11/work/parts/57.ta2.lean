/-! THE TAPE: numbers, kinds, figures in the class -/
theorem tkS_f {n : Nat} {t : Nat → Nat} {c : Nat} {q : TS} (h : tk n t c q = false) : tkS n t c q = q := by
  cases q with
  | inl a =>
    have h : ¬ tb n t a = c := of_decide_eq_false h
    simp only [tkS]
    rw [if_neg h]
  | inr f => rfl
theorem tkS_t {n : Nat} {t : Nat → Nat} {c : Nat} {q : TS} (h : tk n t c q = true) (hc : c ≠ 0) : ∃ a, q = .inl a ∧ tkS n t c q = .inl (a + 1) ∧ a < n ∧ tb n t a = c := by
  cases q with
  | inl a =>
    have h : tb n t a = c := of_decide_eq_true h
    refine ⟨a, rfl, ?_, tb_lt h hc, h⟩
    simp only [tkS]
    rw [if_pos h]
  | inr f => cases h
theorem ST_takesPart {d : Nat} {n : Nat} {t : Nat → Nat} {M : Mm} {Q : Po} {q : TS} (hT : TC n t M q) (h : ∀ M', EqO [41] M M' → TC n t M' (if tk n t 59 q = true then tkS n t 59 q else enS n q) → Q M' (some (.int (bI (tk n t 59 q))))) : Call (d + 3) mT_takesPart [.ref 41] M Q := by
  refine Call_of (m := mT_takesPart) [some (.ref 41)] rfl (fun G => Nat.le_of_ble_eq_true rfl) (fun G => rfl) ?_
  refine g_aload_n dX7_takesPart_0 rfl ?_
  refine g_bipush (nI 59) dX7_takesPart_1 kb_59 ?_
  refine g_call1 dX7_takesPart_3 clT_takesIf ml_T_29 gc7 rfl rfl (by decide) (Nat.le_of_ble_eq_true rfl) ?_
  refine ST_takesIf (by omega) hT (fun M1 hE1 hT1 => ?_)
  refine g_if_eq_b 11 dX7_takesPart_6 (by decide) (fun c6 => ?_) (fun c6 => ?_)
  · rw [tkS_f c6] at hT1
    refine g_aload_n dX7_takesPart_11 rfl ?_
    refine g_call0 dX7_takesPart_12 clT_end ml_T_37 gc7 rfl rfl (by decide) (Nat.le_of_ble_eq_true rfl) ?_
    refine ST_end hT1 (fun M2 hE2 hT2 => ?_)
    refine g_iconst (nI 0) dX7_takesPart_15 ki_0 ?_
    refine g_ireturn dX7_takesPart_16 rfl (by first | rfl | exact nar_bI _) ?_
    refine qb_f (h M2 (hE1.tr hE2) ?_) c6
    rw [if_neg (by rw [c6]; decide)]
    exact hT2
  · refine g_iconst (nI 1) dX7_takesPart_9 ki_1 ?_
    refine g_ireturn dX7_takesPart_10 rfl (by first | rfl | exact nar_bI _) ?_
    refine qb_t (h M1 hE1 ?_) c6
    rw [if_pos c6]
    exact hT1
def mvT (b : Nat) : TS → TS
  | .inl _ => .inl b
  | .inr f => .inr f
theorem TC.mv {n : Nat} {t : Nat → Nat} {M : Mm} {q : TS} {b : Nat} (h : TC n t M q) (hb : b ≤ n) : TC n t (mset M 41 2 (nI b)) (mvT b q) := by
  cases q with
  | inl a => exact h.set2 hb
  | inr f => exact h.set2r hb
theorem mvT_mv (a b : Nat) (q : TS) : mvT a (mvT b q) = mvT a q := by cases q <;> rfl
theorem mvT_at {n : Nat} {t : Nat → Nat} {M : Mm} {q : TS} {a : Nat} (hE : ∀ b, q = .inl b → b = a) : mvT a q = q := by
  cases q with
  | inl b => rw [hE b rfl]; rfl
  | inr f => rfl
theorem ST_takeNumber {d : Nat} {n : Nat} {t : Nat → Nat} {M : Mm} {Q : Po} {lo hi : Nat} {x y : Int32} {q : TS} (hT : TC n t M q) (hxy : okB q = true → x = nI lo ∧ y = nI hi) (hlo : lo < 1000) (hhi : hi < 1000) (h : ∀ M' v, EqO [41] M M' → TC n t M' (nuS n t lo hi q) → (okB q = true → v = nI (nuV n t q)) → Q M' (some (.int v))) : Call (d + 2) mT_takeNumber [.ref 41, .int x, .int y] M Q := by
  obtain ⟨a, ha, e2, ea⟩ := hT.at
  have hn := hT.1.1
  have hfin : ∀ (i v : Nat) (w : Option Value) (M2 : Mm), EqO [41] M M2 → TC n t M2 (nuS n t lo hi q) → nuG n t 3 a 0 = (a + i, v) → Go mT_takeNumber (d + 2) Q 92 [some (.ref 41), some (.int x), some (.int y), some (.int (nI a)), some (.int (nI v)), none, none] [] M2 := by
    intro i v w M2 hE2 hT2 hg
    refine g_iload dX7_takeNumber_92 rfl ?_
    refine g_ireturn dX7_takeNumber_94 rfl (by first | rfl | exact nar_bI _) ?_
    refine h M2 (nI v) hE2 hT2 (fun hok => ?_)
    cases q with
    | inl b =>
      obtain rfl := ea b rfl
      simp only [nuV]
      rw [hg]
    | inr f => cases hok
  have hend : ∀ (i v : Nat) (M2 : Mm), a + i ≤ n → v < 1000 → EqO [41] M M2 → TC n t M2 (mvT (a + i) q) → M2 41 2 = nI (a + i) → nuG n t 3 a 0 = (a + i, v) → Go mT_takeNumber (d + 2) Q 67 [some (.ref 41), some (.int x), some (.int y), some (.int (nI a)), some (.int (nI v)), none, none] [] M2 := by
    intro i v M2 hai hv hE2 hT2 h2 hg
    have hbad : (∀ b, q = .inl b → nuS n t lo hi q = .inr a) → Go mT_takeNumber (d + 2) Q 87 [some (.ref 41), some (.int x), some (.int y), some (.int (nI a)), some (.int (nI v)), none, none] [] M2 := by
      intro hq
      refine g_aload_n dX7_takeNumber_87 rfl ?_
      refine g_iload_n dX7_takeNumber_88 rfl ?_
      refine g_call1 dX7_takeNumber_89 clT_fail ml_T_33 gc7 rfl rfl (by decide) (Nat.le_of_ble_eq_true rfl) ?_
      refine ST_fail (p := a) hT2 (fun b _ => ⟨rfl, ha⟩) (fun M3 hE3 hT3 => ?_)
      refine hfin i v none M3 (hE2.tr hE3) ?_ hg
      cases q with
      | inl b => rw [hq b rfl]; exact hT3
      | inr f => exact hT3
    have hgood : (∀ b, q = .inl b → nuS n t lo hi q = .inl (a + i)) → Go mT_takeNumber (d + 2) Q 92 [some (.ref 41), some (.int x), some (.int y), some (.int (nI a)), some (.int (nI v)), none, none] [] M2 := by
      intro hq
      refine hfin i v none M2 hE2 ?_ hg
      cases q with
      | inl b => rw [hq b rfl]; exact hT2
      | inr f => exact hT2
    cases q with
    | inr f =>
      refine g_aload_n dX7_takeNumber_67 rfl ?_
      refine g_geti (j := 2) dX7_takeNumber_68 gc7 rfl (by decide) rfl (by decide) fl_T_19 ?_
      try simp (disch := omega) only [h2]
      refine g_iload_n dX7_takeNumber_71 rfl ?_
      refine g_icmp_eq_n 87 dX7_takeNumber_72 (by decide) (by omega) (by omega) (fun c72 => ?_) (fun c72 => ?_)
      · exact hbad (fun b e => by cases e)
      · skip
        refine g_iload dX7_takeNumber_75 rfl ?_
        refine g_iload_n dX7_takeNumber_77 rfl ?_
        refine g_icmp_lt 87 dX7_takeNumber_78 (by decide) (fun c78 => ?_) (fun c78 => ?_)
        · exact hbad (fun b e => by cases e)
        · skip
          refine g_iload dX7_takeNumber_81 rfl ?_
          refine g_iload_n dX7_takeNumber_83 rfl ?_
          refine g_icmp_le 92 dX7_takeNumber_84 (by decide) (fun c84 => ?_) (fun c84 => ?_)
          · exact hgood (fun b e => by cases e)
          · exact hbad (fun b e => by cases e)
    | inl b =>
      obtain ⟨ex, ey⟩ := hxy rfl
      subst ex
      subst ey
      obtain rfl := ea b rfl
      have hS : nuS n t lo hi (.inl b) = if b + i = b ∨ ¬ (lo ≤ v ∧ v ≤ hi) then .inr b else .inl (b + i) := by
        simp only [nuS]
        rw [hg]
      refine g_aload_n dX7_takeNumber_67 rfl ?_
      refine g_geti (j := 2) dX7_takeNumber_68 gc7 rfl (by decide) rfl (by decide) fl_T_19 ?_
      try simp (disch := omega) only [h2]
      refine g_iload_n dX7_takeNumber_71 rfl ?_
      refine g_icmp_eq_n 87 dX7_takeNumber_72 (by decide) (by omega) (by omega) (fun c72 => ?_) (fun c72 => ?_)
      · exact hbad (fun _ _ => by rw [hS, if_pos (Or.inl c72)])
      · skip
        refine g_iload dX7_takeNumber_75 rfl ?_
        refine g_iload_n dX7_takeNumber_77 rfl ?_
        refine g_icmp_lt_n 87 dX7_takeNumber_78 (by decide) (by omega) (by omega) (fun c78 => ?_) (fun c78 => ?_)
        · exact hbad (fun _ _ => by rw [hS, if_pos (Or.inr (by omega))])
        · skip
          refine g_iload dX7_takeNumber_81 rfl ?_
          refine g_iload_n dX7_takeNumber_83 rfl ?_
          refine g_icmp_le_n 92 dX7_takeNumber_84 (by decide) (by omega) (by omega) (fun c84 => ?_) (fun c84 => ?_)
          · exact hgood (fun _ _ => by rw [hS, if_neg (by omega)])
          · exact hbad (fun _ _ => by rw [hS, if_pos (Or.inr (by omega))])
  refine Call_of (m := mT_takeNumber) [some (.ref 41), some (.int x), some (.int y), none, none, none, none] rfl (fun G => Nat.le_of_ble_eq_true rfl) (fun G => rfl) ?_
  refine g_aload_n dX7_takeNumber_0 rfl ?_
  refine g_geti (j := 2) dX7_takeNumber_1 gc7 rfl (by decide) rfl (by decide) fl_T_19 ?_
  try simp (disch := omega) only [e2]
  refine g_ist7_3 dX7_takeNumber_4 (by decide) rfl ?_
  refine g_iconst (nI 0) dX7_takeNumber_5 ki_0 ?_
  refine g_ist7_4 dX7_takeNumber_6 (by decide) rfl ?_
  refine g_iconst (nI 0) dX7_takeNumber_8 ki_0 ?_
  refine g_ist7_5 dX7_takeNumber_9 (by decide) rfl ?_
  suffices hloop : ∀ k i v (w : Option Value) M', i + k = 3 → a + i ≤ n → v < 10 ^ i → EqO [41] M M' → TC n t M' (mvT (a + i) q) → M' 41 2 = nI (a + i) → nuG n t 3 a 0 = nuG n t k (a + i) v → Go mT_takeNumber (d + 2) Q 11 [some (.ref 41), some (.int x), some (.int y), some (.int (nI a)), some (.int (nI v)), some (.int (nI i)), none] [] M' by
    exact hloop 3 0 0 none M rfl ha (by decide) EqO.rf (by rw [Nat.add_zero, mvT_at (n := n) (t := t) (M := M) ea]; exact hT) e2 rfl
  intro k
  induction k with
  | zero =>
    intro i v w M' hik hai hv hE hT2 h2 hg
    have h1000 : v < 1000 := by
      rw [show i = 3 by omega] at hv
      exact hv
    refine g_iload dX7_takeNumber_11 rfl ?_
    refine g_iconst (nI 3) dX7_takeNumber_13 ki_3 ?_
    refine g_icmp_ge_n 67 dX7_takeNumber_14 (by decide) (by omega) (by omega) (fun c14 => ?_) (fun c14 => ?_)
    · exact Go_sub [some (.ref 41), some (.int x), some (.int y), some (.int (nI a)), some (.int (nI v)), none, none] (by simp [subL]) (hend i v M' hai h1000 hE hT2 h2 hg)
    · exact absurd hik (by omega)
  | succ k ih =>
    intro i v w M' hik hai hv hE hT2 h2 hg
    have hb := hT2.1.tb_le (a + i)
    have hp : 10 ^ i ≤ 10 ^ 3 := Nat.pow_le_pow_right (by decide) (by omega)
    have h1000 : v < 1000 := Nat.lt_of_lt_of_le hv hp
    refine g_iload dX7_takeNumber_11 rfl ?_
    refine g_iconst (nI 3) dX7_takeNumber_13 ki_3 ?_
    refine g_icmp_ge_n 67 dX7_takeNumber_14 (by decide) (by omega) (by omega) (fun c14 => ?_) (fun c14 => ?_)
    · exact absurd hik (by omega)
    · refine g_aload_n dX7_takeNumber_17 rfl ?_
      refine g_call0 dX7_takeNumber_18 clT_byteHere ml_T_25 gc7 rfl rfl (by decide) (Nat.le_of_ble_eq_true rfl) ?_
      refine ST_byteHere hT2.1 hai h2 ?_
      rcases Nat.lt_or_ge (tb n t (a + i)) 48 with z | z
      · have hneg : nI (tb n t (a + i)) - nI 48 < 0 := by
          rw [Int32.lt_iff_toInt_lt, Int32.toInt_sub, nI_toInt (by omega), nI_toInt (by omega), Int.bmod_def, show (0 : Int32).toInt = 0 from rfl]
          split <;> omega
        have hg := hg.trans (show nuG n t (k + 1) (a + i) v = (a + i, v) by rw [nuG, if_neg (by unfold dgt; rw [decide_eq_true_eq]; omega)])
        refine g_bipush (nI 48) dX7_takeNumber_21 kb_48 ?_
        first | refine g_isub_n dX7_takeNumber_23 (by omega) ?_ | refine g_isub dX7_takeNumber_23 ?_
        refine g_ist7_6 dX7_takeNumber_24 (by decide) rfl ?_
        refine g_iload dX7_takeNumber_26 rfl ?_
        refine g_if_lt 67 dX7_takeNumber_28 (by decide) (fun c28 => ?_) (fun c28 => ?_)
        · exact Go_sub [some (.ref 41), some (.int x), some (.int y), some (.int (nI a)), some (.int (nI v)), none, none] (by simp [subL]) (hend i v M' hai h1000 hE hT2 h2 hg)
        · exact absurd hneg c28
      · skip
        refine g_bipush (nI 48) dX7_takeNumber_21 kb_48 ?_
        first | refine g_isub_n dX7_takeNumber_23 (by omega) ?_ | refine g_isub dX7_takeNumber_23 ?_
        refine g_ist7_6 dX7_takeNumber_24 (by decide) rfl ?_
        refine g_iload dX7_takeNumber_26 rfl ?_
        refine g_if_lt_n 67 dX7_takeNumber_28 (by decide) (by omega) ?_
        refine g_iload dX7_takeNumber_31 rfl ?_
        refine g_bipush (nI 9) dX7_takeNumber_33 kb_9 ?_
        refine g_icmp_le_n 41 dX7_takeNumber_35 (by decide) (by omega) (by omega) (fun c35 => ?_) (fun c35 => ?_)
        · have ht := tb_lt (n := n) (t := t) (i := a + i) rfl (by omega)
          have hg := hg.trans (show nuG n t (k + 1) (a + i) v = nuG n t k (a + i + 1) (v * 10 + (tb n t (a + i) - 48)) by rw [nuG, if_pos (by unfold dgt; rw [decide_eq_true_eq]; omega)])
          refine g_iload dX7_takeNumber_41 rfl ?_
          refine g_bipush (nI 10) dX7_takeNumber_43 kb_10 ?_
          first | refine g_imul_n dX7_takeNumber_45 ?_ | refine g_imul dX7_takeNumber_45 ?_
          refine g_iload dX7_takeNumber_46 rfl ?_
          first | refine g_iadd_n dX7_takeNumber_48 ?_ | refine g_iadd dX7_takeNumber_48 ?_
          refine g_ist7_4 dX7_takeNumber_49 (by decide) rfl ?_
          refine g_aload_n dX7_takeNumber_51 rfl ?_
          refine g_dup dX7_takeNumber_52 rfl ?_
          refine g_geti (j := 2) dX7_takeNumber_53 gc7 rfl (by decide) rfl (by decide) fl_T_19 ?_
          try simp (disch := omega) only [h2]
          refine g_iconst (nI 1) dX7_takeNumber_56 ki_1 ?_
          first | refine g_iadd_n dX7_takeNumber_57 ?_ | refine g_iadd dX7_takeNumber_57 ?_
          refine g_puti (j := 2) dX7_takeNumber_58 gc7 rfl (by decide) rfl (by decide) fl_T_19 rfl (tyX7_ok 2 (by decide)) (by first | rfl | exact nar_bI _) rfl ?_
          first | refine g_incn7_5 dX7_takeNumber_61 ki_1 (by decide) rfl ?_ | refine g_incg7_5 (nI 1) dX7_takeNumber_61 ki_1 (by decide) rfl ?_
          refine g_goto 11 dX7_takeNumber_64 (by decide) ?_
          refine Go_sub [some (.ref 41), some (.int x), some (.int y), some (.int (nI a)), some (.int (nI (v * 10 + (tb n t (a + i) - 48)))), some (.int (nI (i + 1))), none] (by simp [subL]) (ih (i + 1) _ none _ (by omega) (by omega) ?_ (hE.tr (EqO.set (by decide))) ?_ (mset_at _ _ _ _) hg)
          · rw [Nat.pow_succ]; omega
          · have := hT2.mv (b := a + i + 1) (by omega)
            rw [mvT_mv] at this
            exact this
        · have hg := hg.trans (show nuG n t (k + 1) (a + i) v = (a + i, v) by rw [nuG, if_neg (by unfold dgt; rw [decide_eq_true_eq]; omega)])
          refine g_goto 67 dX7_takeNumber_38 (by decide) ?_
          exact Go_sub [some (.ref 41), some (.int x), some (.int y), some (.int (nI a)), some (.int (nI v)), none, none] (by simp [subL]) (hend i v M' hai h1000 hE hT2 h2 hg)
def kv (k : Nat) : Int32 := if k = 4 then -1 else nI k
theorem lw_ge {k : Nat} (h : k < 4) : 1 ≤ lw k ∧ lw k < 200 := by
  obtain rfl | rfl | rfl | rfl : k = 0 ∨ k = 1 ∨ k = 2 ∨ k = 3 := by omega
  · decide
  · decide
  · decide
  · decide
theorem kd_hit {n : Nat} {t : Nat → Nat} {k : Nat} {q : TS} (hk : k < 4) (h : tk n t (lw k) q = true) : kdS n t q = tkS n t (lw k) q ∧ kdV n t q = k := by
  obtain ⟨a, e, e1, e2, e3⟩ := tkS_t h (by have := lw_ge hk; omega)
  rw [e1]
  subst e
  simp only [kdS, kdV]
  rw [e3, lwI_lw hk, if_pos hk]
  exact ⟨rfl, rfl⟩
theorem kd_miss {n : Nat} {t : Nat → Nat} {q : TS} (h : ∀ k, k < 4 → tk n t (lw k) q = false) : kdS n t q = flA q ∧ kdV n t q = 4 := by
  cases q with
  | inl a =>
    have h4 : ¬ lwI (tb n t a) < 4 := fun z => by
      have h1 := of_decide_eq_false (h _ z)
      exact h1 (lw_lwI z).symm
    simp only [kdS, kdV, flA]
    rw [if_neg h4]
    have := lwI_le (tb n t a)
    exact ⟨rfl, by omega⟩
  | inr f => exact ⟨rfl, rfl⟩
theorem ST_takeKind {d : Nat} {n : Nat} {t : Nat → Nat} {M : Mm} {Q : Po} {q : TS} (hT : TC n t M q) (h : ∀ M', EqO [41] M M' → TC n t M' (kdS n t q) → Q M' (some (.int (kv (kdV n t q))))) : Call (d + 3) mT_takeKind [.ref 41] M Q := by
  refine Call_of (m := mT_takeKind) [some (.ref 41), none] rfl (fun G => Nat.le_of_ble_eq_true rfl) (fun G => rfl) ?_
  refine g_iconst (nI 0) dX7_takeKind_0 ki_0 ?_
  refine g_ist2_1 dX7_takeKind_1 (by decide) rfl ?_
  refine loop_up (P := fun i => ∀ M', EqO [41] M M' → TC n t M' q → (∀ k, k < i → tk n t (lw k) q = false) → Go mT_takeKind (d + 3) Q 2 [some (.ref 41), some (.int (nI i))] [] M') 4 ?_ 0 (Nat.zero_le _) M EqO.rf hT (fun k hk => absurd hk (by omega))
  intro i hi ih M' hE hT2 hm
  refine g_iload_n dX7_takeKind_2 rfl ?_
  refine g_iconst (nI 4) dX7_takeKind_3 ki_4 ?_
  refine g_icmp_ge_n 27 dX7_takeKind_4 (by decide) (by omega) (by omega) (fun c4 => ?_) (fun c4 => ?_)
  · obtain ⟨r1, r2⟩ := kd_miss (n := n) (t := t) (q := q) (fun k hk => hm k (by omega))
    refine g_aload_n dX7_takeKind_27 rfl ?_
    refine g_aload_n dX7_takeKind_28 rfl ?_
    refine g_geti (j := 2) dX7_takeKind_29 gc7 rfl (by decide) rfl (by decide) fl_T_19 ?_
    refine g_call1 dX7_takeKind_32 clT_fail ml_T_33 gc7 rfl rfl (by decide) (Nat.le_of_ble_eq_true rfl) ?_
    refine ST_failA hT2 rfl (fun M3 hE3 hT3 => ?_)
    refine g_iconst ((-1)) dX7_takeKind_35 ki_m1 ?_
    refine g_ireturn dX7_takeKind_36 rfl (by first | rfl | exact nar_bI _) ?_
    have h := h M3 (hE.tr hE3) (by rw [r1]; exact hT3)
    rw [r2] at h
    exact h
  · skip
    refine g_aload_n dX7_takeKind_7 rfl ?_
    refine g_letters dX7_takeKind_8 (by decide) ?_
    refine g_iload_n dX7_takeKind_11 rfl ?_
    refine g_letAt _ dX7_takeKind_12 (by omega) (lw_of (by omega)) ?_
    refine g_call1 dX7_takeKind_13 clT_takesIf ml_T_29 gc7 rfl rfl (by decide) (Nat.le_of_ble_eq_true rfl) ?_
    refine ST_takesIf (lw_ge (by omega)) hT2 (fun M3 hE3 hT3 => ?_)
    refine g_if_eq_b 21 dX7_takeKind_16 (by decide) (fun c16 => ?_) (fun c16 => ?_)
    · rw [tkS_f c16] at hT3
      first | refine g_incn2_1 dX7_takeKind_21 ki_1 (by decide) rfl ?_ | refine g_incg2_1 (nI 1) dX7_takeKind_21 ki_1 (by decide) rfl ?_
      refine g_goto 2 dX7_takeKind_24 (by decide) ?_
      refine ih (by omega) M3 (hE.tr hE3) hT3 (fun k hk => ?_)
      by_cases e : k = i
      · rw [e]; exact c16
      · exact hm k (by omega)
    · obtain ⟨r1, r2⟩ := kd_hit (by omega) c16
      refine g_iload_n dX7_takeKind_19 rfl ?_
      refine g_ireturn dX7_takeKind_20 rfl (by first | rfl | exact nar_bI _) ?_
      have h := h M3 (hE.tr hE3) (by rw [r1]; exact hT3)
      rw [r2, kv, if_neg (by omega)] at h
      exact h
def fgS (n : Nat) (t : Nat → Nat) : TS → TS
  | .inl a => if dgt (tb n t a) = true then .inl (a + 1) else .inr a
  | .inr f => .inr f
def fgV (n : Nat) (t : Nat → Nat) : TS → Nat
  | .inl a => tb n t a - 48
  | .inr _ => 0
theorem ST_takeFigure {d : Nat} {n : Nat} {t : Nat → Nat} {M : Mm} {Q : Po} {q : TS} (hT : TC n t M q) (h : ∀ M' v, EqO [41] M M' → TC n t M' (fgS n t q) → (v = -1 ∨ ∃ u, u ≤ 9 ∧ v = nI u) → (okB (fgS n t q) = true → v = nI (fgV n t q) ∧ fgV n t q ≤ 9) → Q M' (some (.int v))) : Call (d + 2) mT_takeFigure [.ref 41] M Q := by
  obtain ⟨a, ha, e2, ea⟩ := hT.at
  have hb := hT.1.tb_le a
  refine Call_of (m := mT_takeFigure) [some (.ref 41), none] rfl (fun G => Nat.le_of_ble_eq_true rfl) (fun G => rfl) ?_
  refine g_aload_n dX7_takeFigure_0 rfl ?_
  refine g_call0 dX7_takeFigure_1 clT_byteHere ml_T_25 gc7 rfl rfl (by decide) (Nat.le_of_ble_eq_true rfl) ?_
  refine ST_byteHere hT.1 ha e2 ?_
  have hbad : dgt (tb n t a) = false → ∀ w, Go mT_takeFigure (d + 2) Q 18 [some (.ref 41), some (.int w)] [] M := by
    intro hd w
    refine g_aload_n dX7_takeFigure_18 rfl ?_
    refine g_aload_n dX7_takeFigure_19 rfl ?_
    refine g_geti (j := 2) dX7_takeFigure_20 gc7 rfl (by decide) rfl (by decide) fl_T_19 ?_
    refine g_call1 dX7_takeFigure_23 clT_fail ml_T_33 gc7 rfl rfl (by decide) (Nat.le_of_ble_eq_true rfl) ?_
    refine ST_failA hT rfl (fun M3 hE3 hT3 => ?_)
    refine g_iconst ((-1)) dX7_takeFigure_26 ki_m1 ?_
    refine g_ireturn dX7_takeFigure_27 rfl (by first | rfl | exact nar_bI _) ?_
    have hfg : fgS n t q = flA q := by
      cases q with
      | inl b =>
        obtain rfl := ea b rfl
        simp only [fgS, flA]
        rw [if_neg (by rw [hd]; decide)]
      | inr f => rfl
    refine h M3 (-1) hE3 (by rw [hfg]; exact hT3) (Or.inl rfl) (fun hok => ?_)
    rw [hfg] at hok
    cases q with
    | inl b => cases hok
    | inr f => cases hok
  rcases Nat.lt_or_ge (tb n t a) 48 with z | z
  · have hneg : nI (tb n t a) - nI 48 < 0 := by
      rw [Int32.lt_iff_toInt_lt, Int32.toInt_sub, nI_toInt (by omega), nI_toInt (by omega), Int.bmod_def, show (0 : Int32).toInt = 0 from rfl]
      split <;> omega
    refine g_bipush (nI 48) dX7_takeFigure_4 kb_48 ?_
    first | refine g_isub_n dX7_takeFigure_6 (by omega) ?_ | refine g_isub dX7_takeFigure_6 ?_
    refine g_ist2_1 dX7_takeFigure_7 (by decide) rfl ?_
    refine g_iload_n dX7_takeFigure_8 rfl ?_
    refine g_if_lt 18 dX7_takeFigure_9 (by decide) (fun c9 => ?_) (fun c9 => ?_)
    · exact hbad (by unfold dgt; exact decide_eq_false (by omega)) _
    · exact absurd hneg c9
  · skip
    refine g_bipush (nI 48) dX7_takeFigure_4 kb_48 ?_
    first | refine g_isub_n dX7_takeFigure_6 (by omega) ?_ | refine g_isub dX7_takeFigure_6 ?_
    refine g_ist2_1 dX7_takeFigure_7 (by decide) rfl ?_
    refine g_iload_n dX7_takeFigure_8 rfl ?_
    refine g_if_lt_n 18 dX7_takeFigure_9 (by decide) (by omega) ?_
    refine g_iload_n dX7_takeFigure_12 rfl ?_
    refine g_bipush (nI 9) dX7_takeFigure_13 kb_9 ?_
    refine g_icmp_le_n 28 dX7_takeFigure_15 (by decide) (by omega) (by omega) (fun c15 => ?_) (fun c15 => ?_)
    · have ht := tb_lt (n := n) (t := t) (i := a) rfl (by omega)
      have hd : dgt (tb n t a) = true := decide_eq_true (by omega)
      refine g_aload_n dX7_takeFigure_28 rfl ?_
      refine g_dup dX7_takeFigure_29 rfl ?_
      refine g_geti (j := 2) dX7_takeFigure_30 gc7 rfl (by decide) rfl (by decide) fl_T_19 ?_
      try simp (disch := omega) only [e2]
      refine g_iconst (nI 1) dX7_takeFigure_33 ki_1 ?_
      first | refine g_iadd_n dX7_takeFigure_34 ?_ | refine g_iadd dX7_takeFigure_34 ?_
      refine g_puti (j := 2) dX7_takeFigure_35 gc7 rfl (by decide) rfl (by decide) fl_T_19 rfl (tyX7_ok 2 (by decide)) (by first | rfl | exact nar_bI _) rfl ?_
      refine g_iload_n dX7_takeFigure_38 rfl ?_
      refine g_ireturn dX7_takeFigure_39 rfl (by first | rfl | exact nar_bI _) ?_
      refine h _ _ (EqO.set (by decide)) ?_ (Or.inr ⟨tb n t a - 48, by omega, rfl⟩) (fun hok => ?_)
      · have := hT.mv (b := a + 1) (by omega)
        rw [show fgS n t q = mvT (a + 1) q from ?_]
        · exact this
        · cases q with
          | inl b =>
            obtain rfl := ea b rfl
            simp only [fgS, mvT]
            rw [if_pos hd]
          | inr f => rfl
      · cases q with
        | inl b =>
          obtain rfl := ea b rfl
          exact ⟨rfl, by show tb n t b - 48 ≤ 9; omega⟩
        | inr f => cases hok
    · exact hbad (by unfold dgt; exact decide_eq_false (by omega)) _
