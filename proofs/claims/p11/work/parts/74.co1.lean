/-! CONDITIONS: words and comparisons; in the class -/
def ltr (b : Nat) : Bool := decide (97 ≤ b ∧ b ≤ 122)
def wdG (n : Nat) (t : Nat → Nat) : Nat → Nat → Nat
  | 0, a => a
  | k + 1, a => if ltr (tb n t a) = true then wdG n t k (a + 1) else a
theorem wdG_le {n : Nat} {t : Nat → Nat} : ∀ {k a : Nat}, a ≤ n → a ≤ wdG n t k a ∧ wdG n t k a ≤ n
  | 0, a, h => ⟨Nat.le_refl a, h⟩
  | k + 1, a, h => by
    rw [wdG]
    split
    · rename_i z
      have hl : 97 ≤ tb n t a ∧ tb n t a ≤ 122 := of_decide_eq_true z
      have hlt := tb_lt (n := n) (t := t) (i := a) rfl (by omega)
      have := wdG_le (n := n) (t := t) (k := k) (a := a + 1) (by omega)
      omega
    · omega
def wdB (n : Nat) (t : Nat → Nat) (a e i : Nat) : Bool := decide (e - a = strL.getD i 0 ∧ ∀ j, j < strL.getD i 0 → nI (tb n t (a + j)) = chI i j)
def wdI (n : Nat) (t : Nat → Nat) (a e : Nat) : Nat := if wdB n t a e 0 = true then 0 else if wdB n t a e 1 = true then 1 else if wdB n t a e 2 = true then 2 else if wdB n t a e 3 = true then 3 else if wdB n t a e 4 = true then 4 else if wdB n t a e 5 = true then 5 else 6
theorem wdI_le (n : Nat) (t : Nat → Nat) (a e : Nat) : wdI n t a e ≤ 6 := by
  unfold wdI
  split
  · omega
  · split
    · omega
    · split
      · omega
      · split
        · omega
        · split
          · omega
          · split <;> omega
theorem ST_passWord {d : Nat} {n : Nat} {t : Nat → Nat} {M : Mm} {Q : Po} {q : TS} {a : Nat} (hT : TC n t M q) (ha : a ≤ n) (e2 : M 41 2 = nI a) (ea : ∀ b, q = .inl b → b = a) (h : ∀ M', EqO [41] M M' → TC n t M' (mvT (wdG n t 150 a) q) → M' 41 2 = nI (wdG n t 150 a) → Q M' none) : Call (d + 2) mT_passWord [.ref 41] M Q := by
  have hn := hT.1.1
  refine Call_of (m := mT_passWord) [some (.ref 41), none] rfl (fun G => Nat.le_of_ble_eq_true rfl) (fun G => rfl) ?_
  refine g_iconst (nI 0) dX7_passWord_0 ki_0 ?_
  refine g_ist2_1 dX7_passWord_1 (by decide) rfl ?_
  suffices hloop : ∀ k i M', i + k = 150 → a + i ≤ n → EqO [41] M M' → TC n t M' (mvT (a + i) q) → M' 41 2 = nI (a + i) → wdG n t 150 a = wdG n t k (a + i) → Go mT_passWord (d + 2) Q 2 [some (.ref 41), some (.int (nI i))] [] M' by
    exact hloop 150 0 M rfl ha EqO.rf (by rw [Nat.add_zero, mvT_at (n := n) (t := t) (M := M) ea]; exact hT) e2 rfl
  intro k
  induction k with
  | zero =>
    intro i M' hik hai hE hT2 h2 hg
    refine g_iload_n dX7_passWord_2 rfl ?_
    refine g_sipush (nI 150) dX7_passWord_3 ks_150 ?_
    refine g_icmp_ge_n 43 dX7_passWord_6 (by decide) (by omega) (by omega) (fun c6 => ?_) (fun c6 => ?_)
    · refine g_return dX7_passWord_43 rfl ?_
      have hg : wdG n t 150 a = a + i := hg
      refine h M' hE (by rw [hg]; exact hT2) (by rw [hg]; exact h2)
    · exact absurd hik (by omega)
  | succ k ih =>
    intro i M' hik hai hE hT2 h2 hg
    have hb := hT2.1.tb_le (a + i)
    have hex : ¬ ltr (tb n t (a + i)) = true → Go mT_passWord (d + 2) Q 43 [some (.ref 41), some (.int (nI i))] [] M' := by
      intro hz
      have hg := hg.trans (show wdG n t (k + 1) (a + i) = a + i by rw [wdG, if_neg hz])
      refine g_return dX7_passWord_43 rfl ?_
      refine h M' hE (by rw [hg]; exact hT2) (by rw [hg]; exact h2)
    refine g_iload_n dX7_passWord_2 rfl ?_
    refine g_sipush (nI 150) dX7_passWord_3 ks_150 ?_
    refine g_icmp_ge_n 43 dX7_passWord_6 (by decide) (by omega) (by omega) (fun c6 => ?_) (fun c6 => ?_)
    · exact absurd hik (by omega)
    · refine g_aload_n dX7_passWord_9 rfl ?_
      refine g_call0 dX7_passWord_10 clT_byteHere ml_T_25 gc7 rfl rfl (by decide) (Nat.le_of_ble_eq_true rfl) ?_
      refine ST_byteHere hT2.1 hai h2 ?_
      refine g_bipush (nI 97) dX7_passWord_13 kb_97 ?_
      refine g_icmp_lt_n 43 dX7_passWord_15 (by decide) (by omega) (by omega) (fun c15 => ?_) (fun c15 => ?_)
      · exact hex (by unfold ltr; rw [decide_eq_true_eq]; omega)
      · refine g_aload_n dX7_passWord_18 rfl ?_
        refine g_call0 dX7_passWord_19 clT_byteHere ml_T_25 gc7 rfl rfl (by decide) (Nat.le_of_ble_eq_true rfl) ?_
        refine ST_byteHere hT2.1 hai h2 ?_
        refine g_bipush (nI 122) dX7_passWord_22 kb_122 ?_
        refine g_icmp_gt_n 43 dX7_passWord_24 (by decide) (by omega) (by omega) (fun c24 => ?_) (fun c24 => ?_)
        · exact hex (by unfold ltr; rw [decide_eq_true_eq]; omega)
        · have hl : ltr (tb n t (a + i)) = true := decide_eq_true (by omega)
          have hlt := tb_lt (n := n) (t := t) (i := a + i) rfl (by omega)
          have hg := hg.trans (show wdG n t (k + 1) (a + i) = wdG n t k (a + i + 1) by rw [wdG, if_pos hl])
          refine g_aload_n dX7_passWord_27 rfl ?_
          refine g_dup dX7_passWord_28 rfl ?_
          refine g_geti (j := 2) dX7_passWord_29 gc7 rfl (by decide) rfl (by decide) fl_T_19 ?_
          try simp (disch := omega) only [h2]
          refine g_iconst (nI 1) dX7_passWord_32 ki_1 ?_
          first | refine g_iadd_n dX7_passWord_33 ?_ | refine g_iadd dX7_passWord_33 ?_
          refine g_puti (j := 2) dX7_passWord_34 gc7 rfl (by decide) rfl (by decide) fl_T_19 rfl (tyX7_ok 2 (by decide)) (by first | rfl | exact nar_bI _) rfl ?_
          first | refine g_incn2_1 dX7_passWord_37 ki_1 (by decide) rfl ?_ | refine g_incg2_1 (nI 1) dX7_passWord_37 ki_1 (by decide) rfl ?_
          refine g_goto 2 dX7_passWord_40 (by decide) ?_
          refine ih (i + 1) _ (by omega) (by omega) (hE.tr (EqO.set (by decide))) ?_ (mset_at _ _ _ _) hg
          have := hT2.mv (b := a + i + 1) (by omega)
          rw [mvT_mv] at this
          exact this
theorem ST_isWordFrom {d : Nat} {n : Nat} {t : Nat → Nat} {M : Mm} {Q : Po} {a e i : Nat} (hi : i < 6) (hT : TPc n t M) (ha : a ≤ e) (he : e ≤ n) (e2 : M 41 2 = nI e) (h : Q M (some (.int (bI (wdB n t a e i))))) : Call (d + 5) mT_isWordFrom [.ref 41, .int (nI a), .ref (NN + 2 + i)] M Q := by
  have hn := hT.1
  have h7 := strL_le (i := i)
  have hbad : wdB n t a e i = false → ∀ ls, ls = [some (.ref 41), some (.int (nI a)), some (.ref (NN + 2 + i)), none] → Go mT_isWordFrom (d + 5) Q 27 ls [] M := by
    intro hf ls e
    subst e
    refine g_iconst (nI 0) dX7_isWordFrom_27 ki_0 ?_
    refine g_ireturn dX7_isWordFrom_28 rfl (by first | rfl | exact nar_bI _) ?_
    exact qb_f h hf
  refine Call_of (m := mT_isWordFrom) [some (.ref 41), some (.int (nI a)), some (.ref (NN + 2 + i)), none] rfl (fun G => Nat.le_of_ble_eq_true rfl) (fun G => rfl) ?_
  refine g_iload_n dX7_isWordFrom_0 rfl ?_
  refine g_if_lt_n 27 dX7_isWordFrom_1 (by decide) (by omega) ?_
  refine g_aload_n dX7_isWordFrom_4 rfl ?_
  refine g_geti (j := 2) dX7_isWordFrom_5 gc7 rfl (by decide) rfl (by decide) fl_T_19 ?_
  try simp (disch := omega) only [e2]
  refine g_sipush (nI 150) dX7_isWordFrom_8 ks_150 ?_
  refine g_icmp_gt_n 27 dX7_isWordFrom_11 (by decide) (by omega) (by omega) (fun c11 => ?_) (fun c11 => ?_)
  · exact absurd c11 (by omega)
  · refine g_aload_n dX7_isWordFrom_14 rfl ?_
    refine g_geti (j := 2) dX7_isWordFrom_15 gc7 rfl (by decide) rfl (by decide) fl_T_19 ?_
    try simp (disch := omega) only [e2]
    refine g_iload_n dX7_isWordFrom_18 rfl ?_
    first | refine g_isub_n dX7_isWordFrom_19 (by omega) ?_ | refine g_isub dX7_isWordFrom_19 ?_
    refine g_aload_n dX7_isWordFrom_20 rfl ?_
    refine g_strcall0 dX7_isWordFrom_21 clJ0_length_8abf5 ml_T_44 rfl hi (Nat.le_of_ble_eq_true rfl) ?_
    refine SJ_length hi ?_
    refine g_icmp_eq_n 29 dX7_isWordFrom_24 (by decide) (by omega) (by omega) (fun c24 => ?_) (fun c24 => ?_)
    · refine g_iconst (nI 0) dX7_isWordFrom_29 ki_0 ?_
      refine g_ist4_3 dX7_isWordFrom_30 (by decide) rfl ?_
      refine loop_up (P := fun j => (∀ y, y < j → nI (tb n t (a + y)) = chI i y) → Go mT_isWordFrom (d + 5) Q 31 [some (.ref 41), some (.int (nI a)), some (.ref (NN + 2 + i)), some (.int (nI j))] [] M) (strL.getD i 0) ?_ 0 (Nat.zero_le _) (fun y hy => absurd hy (by omega))
      intro j hj jh hok
      refine g_iload_n dX7_isWordFrom_31 rfl ?_
      refine g_aload_n dX7_isWordFrom_32 rfl ?_
      refine g_strcall0 dX7_isWordFrom_33 clJ0_length_8abf5 ml_T_44 rfl hi (Nat.le_of_ble_eq_true rfl) ?_
      refine SJ_length hi ?_
      refine g_icmp_ge_n 63 dX7_isWordFrom_36 (by decide) (by omega) (by omega) (fun c36 => ?_) (fun c36 => ?_)
      · refine g_iconst (nI 1) dX7_isWordFrom_63 ki_1 ?_
        refine g_ireturn dX7_isWordFrom_64 rfl (by first | rfl | exact nar_bI _) ?_
        exact qb_t h (decide_eq_true ⟨c24, fun y hy => hok y (by omega)⟩)
      · have e42 : M 42 (a + j) = nI (t (a + j)) := hT.2.2.2 _ (by omega)
        have etb : tb n t (a + j) = t (a + j) := if_pos (by omega)
        refine g_aload_n dX7_isWordFrom_39 rfl ?_
        refine g_getr (j := 0) dX7_isWordFrom_40 gc7 rfl (by decide) rfl (by decide) fl_T_9 ?_
        refine g_iload_n dX7_isWordFrom_43 rfl ?_
        refine g_iload_n dX7_isWordFrom_44 rfl ?_
        first | refine g_iadd_n dX7_isWordFrom_45 ?_ | refine g_iadd dX7_isWordFrom_45 ?_
        refine g_iald_n dX7_isWordFrom_46 (by first | rfl | assumption) (by first | decide | assumption) (by omega) (by omega) ?_
        try simp (disch := omega) only [e42]
        refine g_aload_n dX7_isWordFrom_47 rfl ?_
        refine g_iload_n dX7_isWordFrom_48 rfl ?_
        refine g_strcall1 dX7_isWordFrom_49 clJ0_charAt_5068e ml_T_49 rfl hi (Nat.le_of_ble_eq_true rfl) ?_
        refine SJ_charAt hi (by omega) ?_
        refine g_icmp_eq 57 dX7_isWordFrom_52 (by decide) (fun c52 => ?_) (fun c52 => ?_)
        · first | refine g_incn4_3 dX7_isWordFrom_57 ki_1 (by decide) rfl ?_ | refine g_incg4_3 (nI 1) dX7_isWordFrom_57 ki_1 (by decide) rfl ?_
          refine g_goto 31 dX7_isWordFrom_60 (by decide) ?_
          refine jh (by omega) (fun y hy => ?_)
          by_cases z : y = j
          · rw [z, etb]; exact c52
          · exact hok y (by omega)
        · refine g_iconst (nI 0) dX7_isWordFrom_55 ki_0 ?_
          refine g_ireturn dX7_isWordFrom_56 rfl (by first | rfl | exact nar_bI _) ?_
          refine qb_f h (decide_eq_false (fun z => c52 ?_))
          have := z.2 j (by omega)
          rw [etb] at this
          exact this
    · exact hbad (decide_eq_false (fun z => c24 z.1)) _ rfl
def wv (k : Nat) : Int32 := if k = 6 then -1 else nI k
theorem SC_wordFrom {d : Nat} {n : Nat} {t : Nat → Nat} {M : Mm} {Q : Po} {a e : Nat} (hT : TPc n t M) (ha : a ≤ e) (he : e ≤ n) (e2 : M 41 2 = nI e) (h : Q M (some (.int (wv (wdI n t a e))))) : Call (d + 6) mC_wordFrom [.ref 50, .int (nI a)] M Q := by
  unfold wdI at h
  refine Call_of (m := mC_wordFrom) [some (.ref 50), some (.int (nI a))] rfl (fun G => Nat.le_of_ble_eq_true rfl) (fun G => rfl) ?_
  refine g_aload_n dX1_wordFrom_0 rfl ?_
  refine g_getr (j := 1) dX1_wordFrom_1 gc1 rfl (by decide) rfl (by decide) fl_C_19 ?_
  refine g_iload_n dX1_wordFrom_4 rfl ?_
  refine g_ldcS 0 rfl rfl dX1_wordFrom_5 ?_
  refine g_call2 dX1_wordFrom_7 clT_isWordFrom ml_C_96 gc7 rfl rfl (by decide) (Nat.le_of_ble_eq_true rfl) ?_
  refine ST_isWordFrom (by omega) hT ha he e2 ?_
  refine g_if_eq_b 15 dX1_wordFrom_10 (by decide) (fun c10 => ?_) (fun c10 => ?_)
  · rw [if_neg (by rw [c10]; decide)] at h
    refine g_aload_n dX1_wordFrom_15 rfl ?_
    refine g_getr (j := 1) dX1_wordFrom_16 gc1 rfl (by decide) rfl (by decide) fl_C_19 ?_
    refine g_iload_n dX1_wordFrom_19 rfl ?_
    refine g_ldcS 1 rfl rfl dX1_wordFrom_20 ?_
    refine g_call2 dX1_wordFrom_22 clT_isWordFrom ml_C_96 gc7 rfl rfl (by decide) (Nat.le_of_ble_eq_true rfl) ?_
    refine ST_isWordFrom (by omega) hT ha he e2 ?_
    refine g_if_eq_b 30 dX1_wordFrom_25 (by decide) (fun c25 => ?_) (fun c25 => ?_)
    · rw [if_neg (by rw [c25]; decide)] at h
      refine g_aload_n dX1_wordFrom_30 rfl ?_
      refine g_getr (j := 1) dX1_wordFrom_31 gc1 rfl (by decide) rfl (by decide) fl_C_19 ?_
      refine g_iload_n dX1_wordFrom_34 rfl ?_
      refine g_ldcS 2 rfl rfl dX1_wordFrom_35 ?_
      refine g_call2 dX1_wordFrom_37 clT_isWordFrom ml_C_96 gc7 rfl rfl (by decide) (Nat.le_of_ble_eq_true rfl) ?_
      refine ST_isWordFrom (by omega) hT ha he e2 ?_
      refine g_if_eq_b 45 dX1_wordFrom_40 (by decide) (fun c40 => ?_) (fun c40 => ?_)
      · rw [if_neg (by rw [c40]; decide)] at h
        refine g_aload_n dX1_wordFrom_45 rfl ?_
        refine g_getr (j := 1) dX1_wordFrom_46 gc1 rfl (by decide) rfl (by decide) fl_C_19 ?_
        refine g_iload_n dX1_wordFrom_49 rfl ?_
        refine g_ldcS 3 rfl rfl dX1_wordFrom_50 ?_
        refine g_call2 dX1_wordFrom_52 clT_isWordFrom ml_C_96 gc7 rfl rfl (by decide) (Nat.le_of_ble_eq_true rfl) ?_
        refine ST_isWordFrom (by omega) hT ha he e2 ?_
        refine g_if_eq_b 60 dX1_wordFrom_55 (by decide) (fun c55 => ?_) (fun c55 => ?_)
        · rw [if_neg (by rw [c55]; decide)] at h
          refine g_aload_n dX1_wordFrom_60 rfl ?_
          refine g_getr (j := 1) dX1_wordFrom_61 gc1 rfl (by decide) rfl (by decide) fl_C_19 ?_
          refine g_iload_n dX1_wordFrom_64 rfl ?_
          refine g_ldcS 4 rfl rfl dX1_wordFrom_65 ?_
          refine g_call2 dX1_wordFrom_67 clT_isWordFrom ml_C_96 gc7 rfl rfl (by decide) (Nat.le_of_ble_eq_true rfl) ?_
          refine ST_isWordFrom (by omega) hT ha he e2 ?_
          refine g_if_eq_b 75 dX1_wordFrom_70 (by decide) (fun c70 => ?_) (fun c70 => ?_)
          · rw [if_neg (by rw [c70]; decide)] at h
            refine g_aload_n dX1_wordFrom_75 rfl ?_
            refine g_getr (j := 1) dX1_wordFrom_76 gc1 rfl (by decide) rfl (by decide) fl_C_19 ?_
            refine g_iload_n dX1_wordFrom_79 rfl ?_
            refine g_ldcS 5 rfl rfl dX1_wordFrom_80 ?_
            refine g_call2 dX1_wordFrom_82 clT_isWordFrom ml_C_96 gc7 rfl rfl (by decide) (Nat.le_of_ble_eq_true rfl) ?_
            refine ST_isWordFrom (by omega) hT ha he e2 ?_
            refine g_if_eq_b 92 dX1_wordFrom_85 (by decide) (fun c85 => ?_) (fun c85 => ?_)
            · rw [if_neg (by rw [c85]; decide)] at h
              refine g_iconst ((-1)) dX1_wordFrom_92 ki_m1 ?_
              refine g_ireturn dX1_wordFrom_93 rfl (by first | rfl | exact nar_bI _) ?_
              exact h
            · rw [if_pos c85] at h
              refine g_iconst (nI 5) dX1_wordFrom_88 ki_5 ?_
              refine g_goto 93 dX1_wordFrom_89 (by decide) ?_
              refine g_ireturn dX1_wordFrom_93 rfl (by first | rfl | exact nar_bI _) ?_
              exact h
          · rw [if_pos c70] at h
            refine g_iconst (nI 4) dX1_wordFrom_73 ki_4 ?_
            refine g_ireturn dX1_wordFrom_74 rfl (by first | rfl | exact nar_bI _) ?_
            exact h
        · rw [if_pos c55] at h
          refine g_iconst (nI 3) dX1_wordFrom_58 ki_3 ?_
          refine g_ireturn dX1_wordFrom_59 rfl (by first | rfl | exact nar_bI _) ?_
          exact h
      · rw [if_pos c40] at h
        refine g_iconst (nI 2) dX1_wordFrom_43 ki_2 ?_
        refine g_ireturn dX1_wordFrom_44 rfl (by first | rfl | exact nar_bI _) ?_
        exact h
    · rw [if_pos c25] at h
      refine g_iconst (nI 1) dX1_wordFrom_28 ki_1 ?_
      refine g_ireturn dX1_wordFrom_29 rfl (by first | rfl | exact nar_bI _) ?_
      exact h
  · rw [if_pos c10] at h
    refine g_iconst (nI 0) dX1_wordFrom_13 ki_0 ?_
    refine g_ireturn dX1_wordFrom_14 rfl (by first | rfl | exact nar_bI _) ?_
    exact h
/-- behind the word: the sign and the number -/
def cqP (n : Nat) (t : Nat → Nat) (v : Int32) (q : TS) : TS × Bool :=
  if tk n t 60 q = true then (nuS n t 0 999 (tkS n t 60 q), decide (v < nI (nuV n t (tkS n t 60 q))))
  else if tk n t 62 q = true then (nuS n t 0 999 (tkS n t 62 q), decide (nI (nuV n t (tkS n t 62 q)) < v))
  else (nuS n t 0 999 (mu n t 61 q), decide (v = nI (nuV n t (mu n t 61 q))))
def cmP (n : Nat) (t : Nat → Nat) (V : Nat → Int32) : TS → TS × Bool
  | .inl a => if wdI n t a (wdG n t 150 a) = 6 then (.inr a, false) else cqP n t (V (wdI n t a (wdG n t 150 a))) (.inl (wdG n t 150 a))
  | .inr f => (.inr f, false)
theorem SC_readComparison {d : Nat} {n : Nat} {t : Nat → Nat} {M : Mm} {Q : Po} {V : Nat → Int32} {q : TS} (hT : TC n t M q) (hV : ∀ w, w < 6 → M 51 w = V w) (h : ∀ M' b, EqO [41] M M' → TC n t M' (cmP n t V q).1 → (okB (cmP n t V q).1 = true → b = (cmP n t V q).2) → Q M' (some (.int (bI b)))) : Call (d + 7) mC_readComparison [.ref 50] M Q := by
  obtain ⟨a, ha, e2, ea⟩ := hT.at
  obtain ⟨w1, w2⟩ := wdG_le (n := n) (t := t) (k := 150) ha
  have w6 := wdI_le n t a (wdG n t 150 a)
  refine Call_of (m := mC_readComparison) [some (.ref 50), none, none] rfl (fun G => Nat.le_of_ble_eq_true rfl) (fun G => rfl) ?_
  refine g_aload_n dX1_readComparison_0 rfl ?_
  refine g_getr (j := 1) dX1_readComparison_1 gc1 rfl (by decide) rfl (by decide) fl_C_19 ?_
  refine g_call0 dX1_readComparison_4 clT_at ml_C_78 gc7 rfl rfl (by decide) (Nat.le_of_ble_eq_true rfl) ?_
  refine ST_at ?_
  rw [e2]
  refine g_ist3_1 dX1_readComparison_7 (by decide) rfl ?_
  refine g_aload_n dX1_readComparison_8 rfl ?_
  refine g_getr (j := 1) dX1_readComparison_9 gc1 rfl (by decide) rfl (by decide) fl_C_19 ?_
  refine g_call0 dX1_readComparison_12 clT_passWord ml_C_82 gc7 rfl rfl (by decide) (Nat.le_of_ble_eq_true rfl) ?_
  refine ST_passWord hT ha e2 ea (fun M1 hE1 hT1 e21 => ?_)
  refine g_aload_n dX1_readComparison_15 rfl ?_
  refine g_iload_n dX1_readComparison_16 rfl ?_
  refine g_call1 dX1_readComparison_17 clC_wordFrom ml_C_85 gc1 rfl rfl (by decide) (Nat.le_of_ble_eq_true rfl) ?_
  refine SC_wordFrom hT1.1 w1 w2 e21 ?_
  by_cases hw : wdI n t a (wdG n t 150 a) = 6
  · rw [hw]
    refine g_ist3_2 dX1_readComparison_20 (by decide) rfl ?_
    refine g_iload_n dX1_readComparison_21 rfl ?_
    refine g_if_lt 31 dX1_readComparison_22 (by decide) (fun c22 => ?_) (fun c22 => ?_)
    · refine g_aload_n dX1_readComparison_31 rfl ?_
      refine g_getr (j := 1) dX1_readComparison_32 gc1 rfl (by decide) rfl (by decide) fl_C_19 ?_
      refine g_iload_n dX1_readComparison_35 rfl ?_
      refine g_call1 dX1_readComparison_36 clT_fail ml_C_88 gc7 rfl rfl (by decide) (Nat.le_of_ble_eq_true rfl) ?_
      refine ST_fail (p := a) hT1 (fun b _ => ⟨rfl, ha⟩) (fun M2 hE2 hT2 => ?_)
      refine g_iconst (nI 0) dX1_readComparison_39 ki_0 ?_
      refine g_ireturn dX1_readComparison_40 rfl (by first | rfl | exact nar_bI _) ?_
      refine h M2 false (hE1.tr hE2) ?_ (fun hok => ?_)
      · cases q with
        | inl b =>
          obtain rfl := ea b rfl
          simp only [cmP]
          rw [if_pos hw]
          exact hT2
        | inr f => exact hT2
      · cases q with
        | inl b =>
          obtain rfl := ea b rfl
          simp only [cmP] at hok
          rw [if_pos hw] at hok
          cases hok
        | inr f => cases hok
    · exact absurd (show wv 6 < 0 from by decide) c22
  · rw [show wv (wdI n t a (wdG n t 150 a)) = nI (wdI n t a (wdG n t 150 a)) from if_neg hw]
    have hcm : ∀ M' b, EqO [41] M M' → TC n t M' (cqP n t (V (wdI n t a (wdG n t 150 a))) (mvT (wdG n t 150 a) q)).1 → (okB (cqP n t (V (wdI n t a (wdG n t 150 a))) (mvT (wdG n t 150 a) q)).1 = true → b = (cqP n t (V (wdI n t a (wdG n t 150 a))) (mvT (wdG n t 150 a) q)).2) → Q M' (some (.int (bI b))) := by
      intro M' b hE hT' hb
      refine h M' b hE ?_ (fun hok => ?_)
      · cases q with
        | inl x =>
          obtain rfl := ea x rfl
          simp only [cmP]
          rw [if_neg hw]
          exact hT'
        | inr f => exact hT'
      · cases q with
        | inl x =>
          obtain rfl := ea x rfl
          simp only [cmP] at hok ⊢
          rw [if_neg hw] at hok ⊢
          exact hb hok
        | inr f => cases hok
    clear h
    generalize wdI n t a (wdG n t 150 a) = w at hcm hw w6
    generalize mvT (wdG n t 150 a) q = q2 at hT1 hcm
    have hw6 : w < 6 := by omega
    have hV1 : ∀ M', EqO [41] M M' → M' 51 w = V w := fun M' hE => by rw [hE 51 (by decide)]; exact hV w hw6
    unfold cqP at hcm
    refine g_ist3_2 dX1_readComparison_20 (by decide) rfl ?_
    refine g_iload_n dX1_readComparison_21 rfl ?_
    refine g_if_lt_n 31 dX1_readComparison_22 (by decide) (by omega) ?_
    refine g_iload_n dX1_readComparison_25 rfl ?_
    refine g_bipush (nI 6) dX1_readComparison_26 kb_6 ?_
    refine g_icmp_lt_n 41 dX1_readComparison_28 (by decide) (by omega) (by omega) (fun c28 => ?_) (fun c28 => ?_)
    · refine g_aload_n dX1_readComparison_41 rfl ?_
      refine g_getr (j := 1) dX1_readComparison_42 gc1 rfl (by decide) rfl (by decide) fl_C_19 ?_
      refine g_bipush (nI 60) dX1_readComparison_45 kb_60 ?_
      refine g_call1 dX1_readComparison_47 clT_takesIf ml_C_66 gc7 rfl rfl (by decide) (Nat.le_of_ble_eq_true rfl) ?_
      refine ST_takesIf (c := 60) (by omega) hT1 (fun M2 hE2 hT2 => ?_)
      have hv2 := hV1 M2 (hE1.tr hE2)
      refine g_if_eq_b 79 dX1_readComparison_50 (by decide) (fun c50 => ?_) (fun c50 => ?_)
      · rw [if_neg (c := tk n t 60 q2 = true) (by rw [c50]; decide)] at hcm
        rw [tkS_f c50] at hT2
        refine g_aload_n dX1_readComparison_79 rfl ?_
        refine g_getr (j := 1) dX1_readComparison_80 gc1 rfl (by decide) rfl (by decide) fl_C_19 ?_
        refine g_bipush (nI 62) dX1_readComparison_83 kb_62 ?_
        refine g_call1 dX1_readComparison_85 clT_takesIf ml_C_66 gc7 rfl rfl (by decide) (Nat.le_of_ble_eq_true rfl) ?_
        refine ST_takesIf (c := 62) (by omega) hT2 (fun M3 hE3 hT3 => ?_)
        have hv3 := hV1 M3 (hE1.tr (hE2.tr hE3))
        refine g_if_eq_b 117 dX1_readComparison_88 (by decide) (fun c88 => ?_) (fun c88 => ?_)
        · rw [if_neg (c := tk n t 62 q2 = true) (by rw [c88]; decide)] at hcm
          rw [tkS_f c88] at hT3
          dsimp only at hcm
          have hlast : ∀ M5, EqO [41] M M5 → TC n t M5 (mu n t 61 q2) → Go mC_readComparison (d + 7) Q 143 [some (.ref 50), some (.int (nI a)), some (.int (nI w))] [] M5 := by
            intro M5 hE5 hT5
            have hv5 := hV1 M5 hE5
            refine g_aload_n dX1_readComparison_143 rfl ?_
            refine g_getr (j := 2) dX1_readComparison_144 gc1 rfl (by decide) rfl (by decide) fl_C_11 ?_
            refine g_iload_n dX1_readComparison_147 rfl ?_
            refine g_iald_n dX1_readComparison_148 (by first | rfl | assumption) (by first | decide | assumption) (by omega) (by omega) ?_
            try simp (disch := omega) only [hv5]
            refine g_aload_n dX1_readComparison_149 rfl ?_
            refine g_getr (j := 1) dX1_readComparison_150 gc1 rfl (by decide) rfl (by decide) fl_C_19 ?_
            refine g_iconst (nI 0) dX1_readComparison_153 ki_0 ?_
            refine g_sipush (nI 999) dX1_readComparison_154 ks_999 ?_
            refine g_call2 dX1_readComparison_157 clT_takeNumber ml_C_91 gc7 rfl rfl (by decide) (Nat.le_of_ble_eq_true rfl) ?_
            refine ST_takeNumber (lo := 0) (hi := 999) hT5 (fun _ => ⟨rfl, rfl⟩) (by omega) (by omega) (fun M6 v hE6 hT6 hv => ?_)
            refine g_icmp_ne 167 dX1_readComparison_160 (by decide) (fun c160 => ?_) (fun c160 => ?_)
            · refine g_iconst (nI 0) dX1_readComparison_167 ki_0 ?_
              refine g_ireturn dX1_readComparison_168 rfl (by first | rfl | exact nar_bI _) ?_
              refine hcm M6 false (hE5.tr hE6) hT6 (fun hok => ?_)
              rw [← hv (ok_nu hok).1]
              exact (decide_eq_false c160).symm
            · refine g_iconst (nI 1) dX1_readComparison_163 ki_1 ?_
              refine g_goto 168 dX1_readComparison_164 (by decide) ?_
              refine g_ireturn dX1_readComparison_168 rfl (by first | rfl | exact nar_bI _) ?_
              refine hcm M6 true (hE5.tr hE6) hT6 (fun hok => ?_)
              rw [← hv (ok_nu hok).1]
              exact (decide_eq_true c160).symm
          refine g_aload_n dX1_readComparison_117 rfl ?_
          refine g_getr (j := 1) dX1_readComparison_118 gc1 rfl (by decide) rfl (by decide) fl_C_19 ?_
          refine g_bipush (nI 61) dX1_readComparison_121 kb_61 ?_
          refine g_call1 dX1_readComparison_123 clT_takesIf ml_C_66 gc7 rfl rfl (by decide) (Nat.le_of_ble_eq_true rfl) ?_
          refine ST_takesIf (c := 61) (by omega) hT3 (fun M4 hE4 hT4 => ?_)
          refine g_if_ne_b 143 dX1_readComparison_126 (by decide) (fun c126 => ?_) (fun c126 => ?_)
          · refine hlast M4 (hE1.tr (hE2.tr (hE3.tr hE4))) ?_
            obtain ⟨b, e, e1, _, e3⟩ := tkS_t c126 (by omega)
            rw [e1] at hT4
            subst e
            simp only [mu]
            rw [if_pos e3]
            exact hT4
          · rw [tkS_f c126] at hT4
            refine g_aload_n dX1_readComparison_129 rfl ?_
            refine g_getr (j := 1) dX1_readComparison_130 gc1 rfl (by decide) rfl (by decide) fl_C_19 ?_
            refine g_aload_n dX1_readComparison_133 rfl ?_
            refine g_getr (j := 1) dX1_readComparison_134 gc1 rfl (by decide) rfl (by decide) fl_C_19 ?_
            refine g_call0 dX1_readComparison_137 clT_at ml_C_78 gc7 rfl rfl (by decide) (Nat.le_of_ble_eq_true rfl) ?_
            refine ST_at ?_
            refine g_call1 dX1_readComparison_140 clT_fail ml_C_88 gc7 rfl rfl (by decide) (Nat.le_of_ble_eq_true rfl) ?_
            refine ST_failA hT4 rfl (fun M5 hE5 hT5 => ?_)
            refine hlast M5 (hE1.tr (hE2.tr (hE3.tr (hE4.tr hE5)))) ?_
            cases q2 with
            | inl b =>
              have c126 : ¬ tb n t b = 61 := of_decide_eq_false c126
              simp only [mu]
              rw [if_neg c126]
              exact hT5
            | inr f => exact hT5
        · rw [if_pos c88] at hcm
          dsimp only at hcm
          refine g_aload_n dX1_readComparison_91 rfl ?_
          refine g_getr (j := 2) dX1_readComparison_92 gc1 rfl (by decide) rfl (by decide) fl_C_11 ?_
          refine g_iload_n dX1_readComparison_95 rfl ?_
          refine g_iald_n dX1_readComparison_96 (by first | rfl | assumption) (by first | decide | assumption) (by omega) (by omega) ?_
          try simp (disch := omega) only [hv5]
          refine g_aload_n dX1_readComparison_97 rfl ?_
          refine g_getr (j := 1) dX1_readComparison_98 gc1 rfl (by decide) rfl (by decide) fl_C_19 ?_
          refine g_iconst (nI 0) dX1_readComparison_101 ki_0 ?_
          refine g_sipush (nI 999) dX1_readComparison_102 ks_999 ?_
          refine g_call2 dX1_readComparison_105 clT_takeNumber ml_C_91 gc7 rfl rfl (by decide) (Nat.le_of_ble_eq_true rfl) ?_
          refine ST_takeNumber (lo := 0) (hi := 999) hT3 (fun _ => ⟨rfl, rfl⟩) (by omega) (by omega) (fun M6 v hE6 hT6 hv => ?_)
          refine g_icmp_le 115 dX1_readComparison_108 (by decide) (fun c108 => ?_) (fun c108 => ?_)
          · refine g_iconst (nI 0) dX1_readComparison_115 ki_0 ?_
            refine g_ireturn dX1_readComparison_116 rfl (by first | rfl | exact nar_bI _) ?_
            refine hcm M6 false (hE1.tr (hE2.tr (hE3.tr hE6))) hT6 (fun hok => ?_)
            rw [← hv (ok_nu hok).1]
            rw [hv3] at c108
            exact (decide_eq_false (Int32.not_lt.mpr c108)).symm
          · refine g_iconst (nI 1) dX1_readComparison_111 ki_1 ?_
            refine g_goto 116 dX1_readComparison_112 (by decide) ?_
            refine g_ireturn dX1_readComparison_116 rfl (by first | rfl | exact nar_bI _) ?_
            refine hcm M6 true (hE1.tr (hE2.tr (hE3.tr hE6))) hT6 (fun hok => ?_)
            rw [← hv (ok_nu hok).1]
            rw [hv3] at c108
            exact (decide_eq_true (Int32.not_le.mp c108)).symm
      · rw [if_pos c50] at hcm
        dsimp only at hcm
        refine g_aload_n dX1_readComparison_53 rfl ?_
        refine g_getr (j := 2) dX1_readComparison_54 gc1 rfl (by decide) rfl (by decide) fl_C_11 ?_
        refine g_iload_n dX1_readComparison_57 rfl ?_
        refine g_iald_n dX1_readComparison_58 (by first | rfl | assumption) (by first | decide | assumption) (by omega) (by omega) ?_
        try simp (disch := omega) only [hv5]
        refine g_aload_n dX1_readComparison_59 rfl ?_
        refine g_getr (j := 1) dX1_readComparison_60 gc1 rfl (by decide) rfl (by decide) fl_C_19 ?_
        refine g_iconst (nI 0) dX1_readComparison_63 ki_0 ?_
        refine g_sipush (nI 999) dX1_readComparison_64 ks_999 ?_
        refine g_call2 dX1_readComparison_67 clT_takeNumber ml_C_91 gc7 rfl rfl (by decide) (Nat.le_of_ble_eq_true rfl) ?_
        refine ST_takeNumber (lo := 0) (hi := 999) hT2 (fun _ => ⟨rfl, rfl⟩) (by omega) (by omega) (fun M6 v hE6 hT6 hv => ?_)
        refine g_icmp_ge 77 dX1_readComparison_70 (by decide) (fun c70 => ?_) (fun c70 => ?_)
        · refine g_iconst (nI 0) dX1_readComparison_77 ki_0 ?_
          refine g_ireturn dX1_readComparison_78 rfl (by first | rfl | exact nar_bI _) ?_
          refine hcm M6 false (hE1.tr (hE2.tr hE6)) hT6 (fun hok => ?_)
          rw [← hv (ok_nu hok).1]
          rw [hv2] at c70
          exact (decide_eq_false (Int32.not_lt.mpr c70)).symm
        · refine g_iconst (nI 1) dX1_readComparison_73 ki_1 ?_
          refine g_goto 78 dX1_readComparison_74 (by decide) ?_
          refine g_ireturn dX1_readComparison_78 rfl (by first | rfl | exact nar_bI _) ?_
          refine hcm M6 true (hE1.tr (hE2.tr hE6)) hT6 (fun hok => ?_)
          rw [← hv (ok_nu hok).1]
          rw [hv2] at c70
          exact (decide_eq_true (Int32.not_le.mp c70)).symm
    · exact absurd hw6 c28
