theorem g_dup2 {m : Me} {d : Nat} {Q : Po} {pc : Nat} {ls : Lv} {st : St} {M : Mm} {v w : Value} (hd : decode m.2.1 pc = .ok (.dup2, 1)) (hv : v.category = 1) (hw : w.category = 1) (kk : Go m d Q (pc + 1) ls (v :: w :: v :: w :: st) M) : Go m d Q pc ls (v :: w :: st) M := by
  intro p l e s mi args below meth c G sz hF hK hS hz H locs arr hP hD hFr hl
  exact lv_dup2_11 hF.1 hF.2.1 hd (by rw [cv_cat]; exact hv) (by rw [cv_cat]; exact hw) (kk p l e s mi args below meth c G sz hF hK hS hz H locs arr hP hD hFr hl)
/-! BOTH SIDE BY SIDE: what holds between the calls -/
/-- who holds may hold -/
def HM (S : BS) : Prop := ∀ d, d < S 1 0 0 → S 12 d 0 < 8 → mayB S (S 12 d 0) d = true
theorem mayB_here {S : BS} {p d : Nat} (h : mayB S p d = true) : S 4 p 0 = 1 := by
  unfold mayB at h
  rw [Bool.and_eq_true] at h
  exact hr_of.mp h.1
theorem HM.here {S : BS} (h : HM S) {d : Nat} (hd : d < S 1 0 0) (h8 : S 12 d 0 < 8) : S 4 (S 12 d 0) 0 = 1 := mayB_here (h d hd h8)
theorem may_cong {S T : BS} {p d : Nat} (h4 : T 4 p 0 = S 4 p 0) (h6 : T 6 p 0 = S 6 p 0) (h7 : ∀ r, T 7 p r = S 7 p r) (h8 : ∀ r, T 8 p r = S 8 p r) (h9 : ∀ r, T 9 p r = S 9 p r) (h10 : T 10 d 0 = S 10 d 0) (h11 : T 11 d 0 = S 11 d 0) : mayB T p d = mayB S p d := by
  unfold mayB hr
  simp only [h4, h6, h7, h8, h9, h10, h11]
theorem may_ho {S T : BS} (h : ∀ a, a ≠ 12 → T a = S a) (p d : Nat) : mayB T p d = mayB S p d := may_cong (by rw [h 4 (by decide)]) (by rw [h 6 (by decide)]) (fun r => by rw [h 7 (by decide)]) (fun r => by rw [h 8 (by decide)]) (fun r => by rw [h 9 (by decide)]) (by rw [h 10 (by decide)]) (by rw [h 11 (by decide)])
def okO (k j : Nat) : Prop := k = 0 ∨ (14 ≤ k ∧ k ≤ 26) ∨ (k = 41 ∧ j = 1) ∨ k = 42 ∨ (52 ≤ k ∧ k ≤ 56) ∨ (k = 57 ∧ (j = 2 ∨ j = 19 ∨ j = 31)) ∨ (59 ≤ k ∧ k ≤ 61) ∨ k = 69 ∨ 74 ≤ k
def FrC (M M' : Mm) : Prop := ∀ k j, (okO k j ∨ 57 ≤ k) → M' k j = M k j
def FrM (M M' : Mm) : Prop := ∀ k j, (okO k j ∨ k < 57) → M' k j = M k j
def LC : List Nat := [1, 2, 3, 4, 5, 6, 7, 8, 9, 10, 11, 12, 13, 27, 28, 29, 30, 31, 32, 33, 34, 35, 36, 37, 38, 39, 40, 43, 44, 45, 46, 47, 48, 49, 50, 51]
def LM : List Nat := [58, 62, 63, 64, 65, 66, 67, 68, 70, 71, 72, 73]
theorem LC_in {k : Nat} (h : k ∈ LC) : (1 ≤ k ∧ k ≤ 13) ∨ (27 ≤ k ∧ k ≤ 40) ∨ (43 ≤ k ∧ k ≤ 51) := by
  simp only [LC, List.mem_cons, List.not_mem_nil, or_false] at h
  omega
theorem LM_in {k : Nat} (h : k ∈ LM) : k = 58 ∨ (62 ≤ k ∧ k ≤ 68) ∨ (70 ≤ k ∧ k ≤ 73) := by
  simp only [LM, List.mem_cons, List.not_mem_nil, or_false] at h
  omega
theorem FrC.of {L : List Nat} {M M' : Mm} (h : EqO L M M') (hL : ∀ k ∈ L, k ∈ LC) : FrC M M' := fun k j hk => by
  rw [h k (fun e => ?_)]
  have := LC_in (hL k e)
  unfold okO at hk
  omega
theorem FrM.of {L : List Nat} {M M' : Mm} (h : EqO L M M') (hL : ∀ k ∈ L, k ∈ LM) : FrM M M' := fun k j hk => by
  rw [h k (fun e => ?_)]
  have := LM_in (hL k e)
  unfold okO at hk
  omega
theorem FrC.rf {M : Mm} : FrC M M := fun _ _ _ => rfl
theorem FrM.rf {M : Mm} : FrM M M := fun _ _ _ => rfl
theorem FrC.tr {M M1 M2 : Mm} (h1 : FrC M M1) (h2 : FrC M1 M2) : FrC M M2 := fun k j hk => (h2 k j hk).trans (h1 k j hk)
theorem FrM.tr {M M1 M2 : Mm} (h1 : FrM M M1) (h2 : FrM M1 M2) : FrM M M2 := fun k j hk => (h2 k j hk).trans (h1 k j hk)
/-- the image, the tape, the paper, the lists -/
def OT (M : Mm) (b : Bool) (S' : BS) (n : Nat) (t : Nat → Nat) (pn : Nat) (pf : Nat → Nat) : Prop :=
  (b = true → HM S') ∧ n ≤ 150 ∧ (∀ i, i < n → 1 ≤ t i ∧ t i ≤ 127) ∧ pn ≤ 168 ∧
  (M 0 2 = bI b ∧ (b = true → BK (fun k => M (k + 13)) S') ∧ M 41 1 = nI n ∧ (∀ i, i < n → M 42 i = nI (t i)) ∧ M 52 1 = nI pn ∧ (∀ i, i < pn → M 53 i = nI (pf i))) ∧
  (M 57 2 = bI b ∧ (b = true → MK (M 59) S') ∧ M 57 19 = nI n ∧ (∀ i, i < n → M 69 i = nI (t i)) ∧ M 57 31 = nI pn ∧ (∀ i, i < pn → M 74 i = nI (pf i))) ∧
  (∀ l, l < 4 → M 75 l = M 56 l ∧ (M 56 l = -1 ∨ ∃ s, s ≤ 30 ∧ M 56 l = nI s)) ∧ (∀ i, i < 120 → M 76 i = M 55 i) ∧ MC M
theorem OT.keep {M M' : Mm} {b : Bool} {S' : BS} {n : Nat} {t : Nat → Nat} {pn : Nat} {pf : Nat → Nat} (h : OT M b S' n t pn pf) (hk : ∀ k j, okO k j → M' k j = M k j) : OT M' b S' n t pn pf := by
  unfold okO at hk
  obtain ⟨h1, h2, h3, h4, ⟨a1, a2, a3, a4, a5, a6⟩, ⟨b1, b2, b3, b4, b5, b6⟩, c1, c2, c3⟩ := h
  refine ⟨h1, h2, h3, h4, ⟨?_, fun hb => ?_, ?_, fun i hi => ?_, ?_, fun i hi => ?_⟩, ⟨?_, fun hb => ?_, ?_, fun i hi => ?_, ?_, fun i hi => ?_⟩, fun l hl => ?_, fun i hi => ?_, ⟨fun j hj => ?_, fun j hj => ?_⟩⟩
  · rw [hk 0 2 (by omega)]; exact a1
  · refine (a2 hb).keep (fun k j hr => ?_)
    have hk13 : 1 ≤ k ∧ k ≤ 13 := by unfold relB at hr; omega
    exact hk (k + 13) j (by omega)
  · rw [hk 41 1 (by omega)]; exact a3
  · rw [hk 42 i (by omega)]; exact a4 i hi
  · rw [hk 52 1 (by omega)]; exact a5
  · rw [hk 53 i (by omega)]; exact a6 i hi
  · rw [hk 57 2 (by omega)]; exact b1
  · rw [show M' 59 = M 59 from funext (fun j => hk 59 j (by omega))]; exact b2 hb
  · rw [hk 57 19 (by omega)]; exact b3
  · rw [hk 69 i (by omega)]; exact b4 i hi
  · rw [hk 57 31 (by omega)]; exact b5
  · rw [hk 74 i (by omega)]; exact b6 i hi
  · rw [hk 75 l (by omega), hk 56 l (by omega)]; exact c1 l hl
  · rw [hk 76 i (by omega), hk 55 i (by omega)]; exact c2 i hi
  · rw [hk 60 j (by omega)]; exact c3.1 j hj
  · rw [hk 61 j (by omega)]; exact c3.2 j hj
def INV (M : Mm) : Prop := ∃ (S : BS) (b : Bool) (S' : BS) (n : Nat) (t : Nat → Nat) (pn : Nat) (pf : Nat → Nat), HM S ∧ BK M S ∧ MK (M 58) S ∧ OT M b S' n t pn pf
/-- a call on both: the same answer, and what holds between the calls holds again -/
def TyI (r1 r2 : Option Value) : Prop := ∃ v : Int32, r1 = some (.int v) ∧ r2 = some (.int v)
theorem TyI.rf {v : Int32} : TyI (some (.int v)) (some (.int v)) := ⟨v, rfl, rfl⟩
theorem TyI.of {v w : Int32} (h : w = v) : TyI (some (.int v)) (some (.int w)) := ⟨v, rfl, by rw [h]⟩
def IsI (r : Option Value) : Prop := ∃ v : Int32, r = some (.int v)
theorem IsI.rf {v : Int32} : IsI (some (.int v)) := ⟨v, rfl⟩
def Both (yF yM : Me) (args : List Value) : Prop := ∀ M, INV M → Call 60 yF (.ref 0 :: args) M (fun M1 r1 => IsI r1 ∧ Call 60 yM (.ref 57 :: args) M1 (fun M2 r2 => TyI r1 r2 ∧ INV M2))
/-- a call on both whose answers may be unlike: what holds between the calls holds again -/
def BothW (yF yM : Me) (args : List Value) : Prop := ∀ M, INV M → Call 60 yF (.ref 0 :: args) M (fun M1 r1 => IsI r1 ∧ Call 60 yM (.ref 57 :: args) M1 (fun M2 r2 => IsI r2 ∧ INV M2))
theorem BK.frM {M M' : Mm} {S : BS} (h : BK M S) (hf : FrM M M') : BK M' S := h.keep (fun k j hr => hf k j (Or.inr (by unfold relB at hr; omega)))
theorem MK.frC {M M' : Mm} {S : BS} (h : MK (M 58) S) (hf : FrC M M') : MK (M' 58) S := by
  rw [show M' 58 = M 58 from funext (fun j => hf 58 j (Or.inr (by omega)))]; exact h
theorem MC.frC {M M' : Mm} (h : MC M) (hf : FrC M M') : MC M' := ⟨fun j hj => by rw [hf 60 j (Or.inr (by omega))]; exact h.1 j hj, fun j hj => by rw [hf 61 j (Or.inr (by omega))]; exact h.2 j hj⟩
/-- calls that speak of the roster alone -/
theorem both_book {yF yM : Me} {args : List Value} (f : BS → Int32 × BS) (hc : ∀ (M : Mm) (S : BS) (Q : Po), BK M S → HM S → (∀ M', FrC M M' → BK M' (f S).2 → Q M' (some (.int (f S).1))) → Call 60 yF (.ref 0 :: args) M Q)
    (hm : ∀ (M : Mm) (S : BS) (Q : Po), MK (M 58) S → MC M → HM S → (∀ M', FrM M M' → MK (M' 58) (f S).2 → Q M' (some (.int (f S).1))) → Call 60 yM (.ref 57 :: args) M Q) (hH : ∀ S, WF S → HM S → HM (f S).2) : Both yF yM args := by
  intro M ⟨S, b, S', n, t, pn, pf, h1, h2, h3, h4⟩
  refine hc M S _ h2 h1 (fun M1 hf1 hB1 => ?_)
  have h4' := h4.keep (fun k j hk => hf1 k j (Or.inl hk))
  refine ⟨IsI.rf, ?_⟩
  refine hm M1 S _ (MK.frC h3 hf1) (h4'.2.2.2.2.2.2.2.2) h1 (fun M2 hf2 hM2 => ?_)
  exact ⟨TyI.rf, (f S).2, b, S', n, t, pn, pf, hH S h2.wf h1, hB1.frM hf2, hM2, h4'.keep (fun k j hk => hf2 k j (Or.inl hk))⟩
def v2n (x : Int32) : Nat := x.toNatClampNeg
theorem v2n_nI {n : Nat} (h : n < 2 ^ 31) : v2n (nI n) = n := nI_clamp h
/-! comes, goes, past -/
def f_comes (x : Int32) (S : BS) : Int32 × BS := if inR x 4 = true then (if S 0 0 0 = 8 then (-4, S) else (nI (S 0 0 0), addS S (v2n x))) else (-1, S)
theorem SF_comes (x : Int32) (M : Mm) (S : BS) (Q : Po) (hB : BK M S) (hH : HM S) (h : ∀ M', FrC M M' → BK M' (f_comes x S).2 → Q M' (some (.int (f_comes x S).1))) : Call 60 mF_comes [.ref 0, .int x] M Q := by
  have hw := hB.wf.np
  refine Call_of (m := mF_comes) [some (.ref 0), some (.int x)] rfl (fun G => Nat.le_of_ble_eq_true rfl) (fun G => rfl) ?_
  refine g_iload_n dX9_comes_0 rfl ?_
  refine g_if_lt 9 dX9_comes_1 (by decide) (fun c1 => ?_) (fun c1 => ?_)
  · have e : inR x 4 = false := inR_f1 c1
    simp only [f_comes, e, Bool.false_eq_true, if_false] at h
    refine g_iconst ((-1)) dX9_comes_9 ki_m1 ?_
    refine g_ireturn dX9_comes_10 rfl (by first | rfl | exact nar_bI _) ?_
    exact h M FrC.rf hB
  · skip
    refine g_iload_n dX9_comes_4 rfl ?_
    refine g_iconst (nI 4) dX9_comes_5 ki_4 ?_
    refine g_icmp_lt 11 dX9_comes_6 (by decide) (fun c6 => ?_) (fun c6 => ?_)
    · have e : inR x 4 = true := inR_t1 (by omega) c1 (Int32.not_le.mpr c6)
      obtain ⟨r, hr, rfl⟩ := inR_true e
      simp only [f_comes, e, if_true, v2n_nI (show r < 2 ^ 31 by omega)] at h
      refine g_aload_n dX9_comes_11 rfl ?_
      refine g_getr (j := 0) dX9_comes_12 gc9 rfl (by decide) rfl (by decide) fl_F_13 ?_
      refine g_geti (j := 0) dX9_comes_15 gc0 rfl (by decide) rfl (by decide) fl_F_83 ?_
      try simp (disch := omega) only [hB.np]
      refine g_bipush (nI 8) dX9_comes_18 kb_8 ?_
      refine g_icmp_lt_n 26 dX9_comes_20 (by decide) (by omega) (by omega) (fun c20 => ?_) (fun c20 => ?_)
      · rw [if_neg (by omega)] at h
        refine g_aload_n dX9_comes_26 rfl ?_
        refine g_getr (j := 0) dX9_comes_27 gc9 rfl (by decide) rfl (by decide) fl_F_13 ?_
        refine g_iload_n dX9_comes_30 rfl ?_
        refine g_call1 dX9_comes_31 clB_addOne ml_F_87 gc0 rfl rfl (by decide) (Nat.le_of_ble_eq_true rfl) ?_
        refine SB_addOne hB (by omega) c20 (fun M' hE hB' => ?_)
        refine g_ireturn dX9_comes_34 rfl (by first | rfl | exact nar_bI _) ?_
        exact h M' (FrC.of hE (by decide)) hB'
      · rw [if_pos (by omega)] at h
        refine g_bipush ((-4)) dX9_comes_23 kb_m4 ?_
        refine g_ireturn dX9_comes_25 rfl (by first | rfl | exact nar_bI _) ?_
        exact h M FrC.rf hB
    · have e : inR x 4 = false := inR_f2 (by omega) (Nat.le_refl _) (Int32.not_lt.mp c6)
      simp only [f_comes, e, Bool.false_eq_true, if_false] at h
      refine g_iconst ((-1)) dX9_comes_9 ki_m1 ?_
      refine g_ireturn dX9_comes_10 rfl (by first | rfl | exact nar_bI _) ?_
      exact h M FrC.rf hB
/-! people: the reference's comes, goes; past, of, neutral, frees -/
theorem SM_comes (x : Int32) (M : Mm) (S : BS) (Q : Po) (hM : MK (M 58) S) (hC : MC M) (hH : HM S) (h : ∀ M', FrM M M' → MK (M' 58) (f_comes x S).2 → Q M' (some (.int (f_comes x S).1))) : Call 60 mM_comes [.ref 57, .int x] M Q := by
  have hw := hM.wf.np
  have hw2 := hM.wf.nd
  refine Call_of (m := mM_comes) [some (.ref 57), some (.int x), none, none] rfl (fun G => Nat.le_of_ble_eq_true rfl) (fun G => rfl) ?_
  refine g_iload_n dX10_comes_0 rfl ?_
  refine g_i2l dX10_comes_1 ?_
  refine g_lconst (0) dX10_comes_2 (by decide) ?_
  refine g_ldc2w (3) dX10_comes_3 kl_M_76 ?_
  refine g_calls3 dX10_comes_6 clM_in ml_M_68 (Nat.le_of_ble_eq_true rfl) ?_
  refine SM_in _ _ _ ?_
  rw [inJ_L (n := 4) (by decide)]
  refine g_if_ne_b 14 dX10_comes_9 (by decide) (fun c9 => ?_) (fun c9 => ?_)
  · obtain ⟨r, hr, rfl⟩ := inR_true c9
    simp only [f_comes, c9, if_true, v2n_nI (show r < 2 ^ 31 by omega)] at h
    refine g_aload_n dX10_comes_14 rfl ?_
    refine g_getr (j := 0) dX10_comes_15 gc10 rfl (by decide) rfl (by decide) fl_M_9 ?_
    refine g_iconst (nI 0) dX10_comes_18 ki_0 ?_
    refine g_iald_n dX10_comes_19 (by first | rfl | assumption) (by first | decide | assumption) (by omega) (by omega) ?_
    try simp (disch := omega) only [hM.np]
    refine g_bipush (nI 8) dX10_comes_20 kb_8 ?_
    refine g_icmp_ne_n 28 dX10_comes_22 (by decide) (by omega) (by omega) (fun c22 => ?_) (fun c22 => ?_)
    · rw [if_neg c22] at h
      dsimp only at h
      refine g_aload_n dX10_comes_28 rfl ?_
      refine g_getr (j := 0) dX10_comes_29 gc10 rfl (by decide) rfl (by decide) fl_M_9 ?_
      refine g_iconst (nI 0) dX10_comes_32 ki_0 ?_
      refine g_iald_n dX10_comes_33 (by first | rfl | assumption) (by first | decide | assumption) (by omega) (by omega) ?_
      try simp (disch := omega) only [hM.np]
      refine g_ist4_2 dX10_comes_34 (by decide) rfl ?_
      refine g_iconst (nI 0) dX10_comes_35 ki_0 ?_
      refine g_ist4_3 dX10_comes_36 (by decide) rfl ?_
      refine loop_up (P := fun i => ∀ w, (∀ j, ¬ (19 + 4 * S 0 0 0 ≤ j ∧ j < 23 + 4 * S 0 0 0) → w j = M 58 j) → (∀ k, k < i → w (19 + 4 * S 0 0 0 + k) = nI (neuN S k)) → ∀ M', EqO [58] M M' → M' 58 = w → Go mM_comes 60 Q 37 [some (.ref 57), some (.int (nI r)), some (.int (nI (S 0 0 0))), some (.int (nI i))] [] M') 4 ?_ 0 (Nat.zero_le _) (M 58) (fun _ _ => rfl) (fun k hk => absurd hk (by omega)) M EqO.rf rfl
      intro i hi ih w hw1 hw3 M' hE hMw
      have hM' : MK (M' 58) S := by
        rw [hMw]
        refine hM.keep (fun j hj hr2 => hw1 j ?_) (hM.mx.keep (fun j hj => hw1 j (by omega)))
        rcases hr2 with q | q | q | q | q | q | q | q | q | ⟨p, e, hp, he, q⟩ <;> omega
      refine g_iload_n dX10_comes_37 rfl ?_
      refine g_iconst (nI 4) dX10_comes_38 ki_4 ?_
      refine g_icmp_ge_n 66 dX10_comes_39 (by decide) (by omega) (by omega) (fun c39 => ?_) (fun c39 => ?_)
      · refine g_aload_n dX10_comes_66 rfl ?_
        refine g_getr (j := 0) dX10_comes_67 gc10 rfl (by decide) rfl (by decide) fl_M_9 ?_
        refine g_bipush (nI 11) dX10_comes_70 kb_11 ?_
        refine g_iload_n dX10_comes_72 rfl ?_
        first | refine g_iadd_n dX10_comes_73 ?_ | refine g_iadd dX10_comes_73 ?_
        refine g_iload_n dX10_comes_74 rfl ?_
        refine g_iast_n dX10_comes_75 (by first | rfl | assumption) (by first | decide | assumption) (by omega) (by omega) ?_
        refine g_aload_n dX10_comes_76 rfl ?_
        refine g_getr (j := 0) dX10_comes_77 gc10 rfl (by decide) rfl (by decide) fl_M_9 ?_
        refine g_iconst (nI 3) dX10_comes_80 ki_3 ?_
        refine g_iload_n dX10_comes_81 rfl ?_
        first | refine g_iadd_n dX10_comes_82 ?_ | refine g_iadd dX10_comes_82 ?_
        refine g_iconst (nI 1) dX10_comes_83 ki_1 ?_
        refine g_iast_n dX10_comes_84 (by first | rfl | assumption) (by first | decide | assumption) (by omega) (by omega) ?_
        refine g_aload_n dX10_comes_85 rfl ?_
        refine g_getr (j := 0) dX10_comes_86 gc10 rfl (by decide) rfl (by decide) fl_M_9 ?_
        refine g_bipush (nI 51) dX10_comes_89 kb_51 ?_
        refine g_iload_n dX10_comes_91 rfl ?_
        first | refine g_iadd_n dX10_comes_92 ?_ | refine g_iadd dX10_comes_92 ?_
        refine g_iconst (nI 0) dX10_comes_93 ki_0 ?_
        refine g_iast_n dX10_comes_94 (by first | rfl | assumption) (by first | decide | assumption) (by omega) (by omega) ?_
        refine g_iconst (nI 0) dX10_comes_95 ki_0 ?_
        refine g_ist4_3 dX10_comes_96 (by decide) rfl ?_
        generalize hM2 : mset (mset (mset M' 58 (11 + S 0 0 0) (nI r)) 58 (3 + S 0 0 0) (nI 1)) 58 (51 + S 0 0 0) (nI 0) = M2
        have g58 : ∀ j, j ≠ 11 + S 0 0 0 → j ≠ 3 + S 0 0 0 → j ≠ 51 + S 0 0 0 → M2 58 j = w j := fun j h1 h2 h3 => by
          rw [← hM2, mset_off (by omega), mset_off (by omega), mset_off (by omega), hMw]
        have g11 : M2 58 (11 + S 0 0 0) = nI r := by rw [← hM2, mset_off (by omega), mset_off (by omega), mset_at]
        have g3 : M2 58 (3 + S 0 0 0) = nI 1 := by rw [← hM2, mset_off (by omega), mset_at]
        have g51 : M2 58 (51 + S 0 0 0) = nI 0 := by rw [← hM2, mset_at]
        have hE2 : EqO [58] M M2 := by rw [← hM2]; exact hE.tr ((EqO.set (by decide)).tr ((EqO.set (by decide)).tr (EqO.set (by decide))))
        refine loop_up (P := fun i => ∀ M3, EqO [58] M M3 → (∀ j, ¬ (323 + 24 * S 0 0 0 ≤ j ∧ j < 347 + 24 * S 0 0 0) → M3 58 j = M2 58 j) → (∀ e, e < i → M3 58 (323 + 24 * S 0 0 0 + e) = nI 0) → Go mM_comes 60 Q 97 [some (.ref 57), some (.int (nI r)), some (.int (nI (S 0 0 0))), some (.int (nI i))] [] M3) 24 ?_ 0 (Nat.zero_le _) M2 hE2 (fun _ _ => rfl) (fun k hk => absurd hk (by omega))
        intro j hj jh M3 hE3 k1 k2
        have e0 : M3 58 0 = nI (S 0 0 0) := by rw [k1 0 (by omega), g58 0 (by omega) (by omega) (by omega), hw1 0 (by omega)]; exact hM.np
        refine g_iload_n dX10_comes_97 rfl ?_
        refine g_bipush (nI 24) dX10_comes_98 kb_24 ?_
        refine g_icmp_ge_n 125 dX10_comes_100 (by decide) (by omega) (by omega) (fun c100 => ?_) (fun c100 => ?_)
        · refine g_aload_n dX10_comes_125 rfl ?_
          refine g_getr (j := 0) dX10_comes_126 gc10 rfl (by decide) rfl (by decide) fl_M_9 ?_
          refine g_iconst (nI 0) dX10_comes_129 ki_0 ?_
          refine g_dup2 dX10_comes_130 rfl rfl ?_
          refine g_iald_n dX10_comes_131 (by first | rfl | assumption) (by first | decide | assumption) (by omega) (by omega) ?_
          try simp (disch := omega) only [mset_off, e0]
          refine g_iconst (nI 1) dX10_comes_132 ki_1 ?_
          first | refine g_iadd_n dX10_comes_133 ?_ | refine g_iadd dX10_comes_133 ?_
          refine g_iast_n dX10_comes_134 (by first | rfl | assumption) (by first | decide | assumption) (by omega) (by omega) ?_
          refine g_iload_n dX10_comes_135 rfl ?_
          refine g_ireturn dX10_comes_136 rfl (by first | rfl | exact nar_bI _) ?_
          have hn8 : S 0 0 0 < 8 := by omega
          have hnr := fun p (hp : p < S 0 0 0) => hM.wf.nr (p := p) (by omega)
          have o : ∀ {a b c : Nat}, a ≠ 0 → a ≠ 3 → a ≠ 4 → a ≠ 5 → a ≠ 6 → a ≠ 13 → addS S r a b c = S a b c := fun h0 h3 h4 h5 h6 h13 => addS_oth h0 h3 h4 h5 h6 h13
          have o1 : addS S r 1 0 0 = S 1 0 0 := o (by decide) (by decide) (by decide) (by decide) (by decide) (by decide)
          have key : ∀ j, j ≠ 0 → j ≠ 11 + S 0 0 0 → j ≠ 3 + S 0 0 0 → j ≠ 51 + S 0 0 0 → ¬ (19 + 4 * S 0 0 0 ≤ j ∧ j < 23 + 4 * S 0 0 0) → ¬ (323 + 24 * S 0 0 0 ≤ j ∧ j < 347 + 24 * S 0 0 0) → mset M3 58 0 (nI (S 0 0 0 + 1)) 58 j = M 58 j := fun j h0 h1 h2 h3 h4 h5 => by
            rw [mset_off (by omega), k1 j h5, g58 j h1 h2 h3, hw1 j h4]
          refine h (mset M3 58 0 (nI (S 0 0 0 + 1))) (FrM.of (hE3.tr (EqO.set (by decide))) (by decide)) ⟨addS_wf hM.wf (by omega) hn8, ?_, ?_, ?_, fun p hp => ?_, fun p k hp hk => ?_, fun p q hp hq => ?_, fun e he => ?_, fun p e hp he => ?_, ?_⟩
          · rw [mset_at]; rfl
          · rw [o (a := 2) (by decide) (by decide) (by decide) (by decide) (by decide) (by decide), key 1 (by omega) (by omega) (by omega) (by omega) (by omega) (by omega)]; exact hM.yr
          · rw [o1, key 2 (by omega) (by omega) (by omega) (by omega) (by omega) (by omega)]; exact hM.nd
          · rw [addS_0] at hp
            by_cases e : p = S 0 0 0
            · subst e
              rw [addS_3, addS_4, addS_6, mset_off (by omega), mset_off (by omega), mset_off (by omega), k1 _ (by omega), k1 _ (by omega), k1 _ (by omega)]
              exact ⟨g3, g11, g51⟩
            · rw [addS_old (a := 4) (by decide) e, addS_old (a := 3) (by decide) e, addS_old (a := 6) (by decide) e, key (3 + p) (by omega) (by omega) (by omega) (by omega) (by omega) (by omega), key (11 + p) (by omega) (by omega) (by omega) (by omega) (by omega) (by omega), key (51 + p) (by omega) (by omega) (by omega) (by omega) (by omega) (by omega)]
              exact ⟨hM.hN (by omega), hM.rk (by omega), hM.nr (by omega)⟩
          · rw [addS_0] at hp
            by_cases e : p = S 0 0 0
            · subst e
              rw [addS_5, mset_off (by omega), k1 _ (by omega), g58 _ (by omega) (by omega) (by omega)]
              exact hw3 k (by omega)
            · rw [addS_old (by decide) e, key _ (by omega) (by omega) (by omega) (by omega) (by omega) (by omega)]; exact hM.ps (by omega) hk
          · rw [addS_0] at hp
            by_cases e : p = S 0 0 0
            · subst e; rw [addS_6] at hq; omega
            · rw [addS_old (by decide) e] at hq
              have hp2 : p < S 0 0 0 := by omega
              have := hnr p hp2
              rw [addS_old (a := 7) (by decide) e, addS_old (a := 8) (by decide) e, addS_old (a := 9) (by decide) e, key _ (by omega) (by omega) (by omega) (by omega) (by omega) (by omega), key _ (by omega) (by omega) (by omega) (by omega) (by omega) (by omega), key _ (by omega) (by omega) (by omega) (by omega) (by omega) (by omega)]
              exact ⟨hM.rs hp2 hq, hM.ra hp2 hq, hM.rb hp2 hq⟩
          · rw [o1] at he
            rw [o (a := 10) (by decide) (by decide) (by decide) (by decide) (by decide) (by decide), o (a := 11) (by decide) (by decide) (by decide) (by decide) (by decide) (by decide), o (a := 12) (by decide) (by decide) (by decide) (by decide) (by decide) (by decide), key _ (by omega) (by omega) (by omega) (by omega) (by omega) (by omega), key _ (by omega) (by omega) (by omega) (by omega) (by omega) (by omega), key _ (by omega) (by omega) (by omega) (by omega) (by omega) (by omega)]
            exact ⟨hM.dy he, hM.kd he, hM.ho he⟩
          · rw [addS_0] at hp
            rw [o1] at he
            by_cases e : p = S 0 0 0
            · subst e
              rw [addS_13, mset_off (by omega)]
              exact k2 _ (by omega)
            · rw [addS_old (by decide) e, key _ (by omega) (by omega) (by omega) (by omega) (by omega) (by omega)]; exact hM.dl (by omega) he
          · rw [o1]
            intro z
            obtain ⟨xa, xk, xq, xx, y1, y2, y3, y4, y5, y6, y7, y8⟩ := hM.mx z
            by_cases e : xq = S 0 0 0
            · refine ⟨xa, xk, xq, 0, y1, y2, y3, by omega, ?_, ?_, ?_, fun hq => ?_⟩
              · rw [key 251 (by omega) (by omega) (by omega) (by omega) (by omega) (by omega)]; exact y5
              · rw [key 275 (by omega) (by omega) (by omega) (by omega) (by omega) (by omega)]; exact y6
              · rw [key 299 (by omega) (by omega) (by omega) (by omega) (by omega) (by omega)]; exact y7
              · rw [e, mset_off (by omega)]
                exact k2 0 (by omega)
            · refine ⟨xa, xk, xq, xx, y1, y2, y3, y4, ?_, ?_, ?_, fun hq => ?_⟩
              · rw [key 251 (by omega) (by omega) (by omega) (by omega) (by omega) (by omega)]; exact y5
              · rw [key 275 (by omega) (by omega) (by omega) (by omega) (by omega) (by omega)]; exact y6
              · rw [key 299 (by omega) (by omega) (by omega) (by omega) (by omega) (by omega)]; exact y7
              · rw [key _ (by omega) (by omega) (by omega) (by omega) (by omega) (by omega)]; exact y8 hq
        · refine g_aload_n dX10_comes_103 rfl ?_
          refine g_getr (j := 0) dX10_comes_104 gc10 rfl (by decide) rfl (by decide) fl_M_9 ?_
          refine g_sipush (nI 323) dX10_comes_107 ks_323 ?_
          refine g_bipush (nI 24) dX10_comes_110 kb_24 ?_
          refine g_iload_n dX10_comes_112 rfl ?_
          first | refine g_imul_n dX10_comes_113 ?_ | refine g_imul dX10_comes_113 ?_
          first | refine g_iadd_n dX10_comes_114 ?_ | refine g_iadd dX10_comes_114 ?_
          refine g_iload_n dX10_comes_115 rfl ?_
          first | refine g_iadd_n dX10_comes_116 ?_ | refine g_iadd dX10_comes_116 ?_
          refine g_iconst (nI 0) dX10_comes_117 ki_0 ?_
          refine g_iast_n dX10_comes_118 (by first | rfl | assumption) (by first | decide | assumption) (by omega) (by omega) ?_
          first | refine g_incn4_3 dX10_comes_119 ki_1 (by decide) rfl ?_ | refine g_incg4_3 (nI 1) dX10_comes_119 ki_1 (by decide) rfl ?_
          refine g_goto 97 dX10_comes_122 (by decide) ?_
          refine jh (by omega) _ (hE3.tr (EqO.set (by decide))) (fun q hq => ?_) (fun e he => ?_)
          · rw [mset_off (by omega)]; exact k1 q hq
          · by_cases e2 : e = j
            · subst e2; rw [mset_at]
            · rw [mset_off (by omega)]; exact k2 e (by omega)
      · refine g_aload_n dX10_comes_42 rfl ?_
        refine g_getr (j := 0) dX10_comes_43 gc10 rfl (by decide) rfl (by decide) fl_M_9 ?_
        refine g_bipush (nI 19) dX10_comes_46 kb_19 ?_
        refine g_iconst (nI 4) dX10_comes_48 ki_4 ?_
        refine g_iload_n dX10_comes_49 rfl ?_
        first | refine g_imul_n dX10_comes_50 ?_ | refine g_imul dX10_comes_50 ?_
        first | refine g_iadd_n dX10_comes_51 ?_ | refine g_iadd dX10_comes_51 ?_
        refine g_iload_n dX10_comes_52 rfl ?_
        first | refine g_iadd_n dX10_comes_53 ?_ | refine g_iadd dX10_comes_53 ?_
        refine g_aload_n dX10_comes_54 rfl ?_
        refine g_iload_n dX10_comes_55 rfl ?_
        refine g_call1 dX10_comes_56 clM_neutralOf ml_M_106 gc10 rfl rfl (by decide) (Nat.le_of_ble_eq_true rfl) ?_
        refine SM_neutralOf hM' (by omega) ?_
        refine g_iast_n dX10_comes_59 (by first | rfl | assumption) (by first | decide | assumption) (by omega) (by omega) ?_
        first | refine g_incn4_3 dX10_comes_60 ki_1 (by decide) rfl ?_ | refine g_incg4_3 (nI 1) dX10_comes_60 ki_1 (by decide) rfl ?_
        refine g_goto 37 dX10_comes_63 (by decide) ?_
        refine ih (by omega) (upd w (19 + 4 * S 0 0 0 + i) (nI (neuN S i))) (fun j hj => ?_) (fun k hk => ?_) _ (hE.tr (EqO.set (by decide))) (by rw [mset_row, hMw])
        · rw [upd_off (by omega)]; exact hw1 j hj
        · by_cases e : k = i
          · subst e; rw [upd_at]
          · rw [upd_off (by omega)]; exact hw3 k (by omega)
    · rw [if_pos c22] at h
      refine g_bipush ((-4)) dX10_comes_25 kb_m4 ?_
      refine g_ireturn dX10_comes_27 rfl (by first | rfl | exact nar_bI _) ?_
      exact h M FrM.rf hM
  · simp only [f_comes, c9, Bool.false_eq_true, if_false] at h
    refine g_iconst ((-1)) dX10_comes_12 ki_m1 ?_
    refine g_ireturn dX10_comes_13 rfl (by first | rfl | exact nar_bI _) ?_
    exact h M FrM.rf hM
theorem addS_HO {S : BS} (hW : WF S) (hH : HM S) {r : Nat} (hn : S 0 0 0 < 8) : HM (addS S r) := by
  intro d hd h8
  have o : ∀ {a b c : Nat}, a ≠ 0 → a ≠ 3 → a ≠ 4 → a ≠ 5 → a ≠ 6 → a ≠ 13 → addS S r a b c = S a b c := fun h0 h3 h4 h5 h6 h13 => addS_oth h0 h3 h4 h5 h6 h13
  rw [o (by decide) (by decide) (by decide) (by decide) (by decide) (by decide)] at hd
  rw [o (a := 12) (by decide) (by decide) (by decide) (by decide) (by decide) (by decide)] at h8 ⊢
  by_cases e : S 12 d 0 = S 0 0 0
  · have h1 := hH.here hd h8
    rw [e, hW.out (Nat.le_refl _)] at h1
    cases h1
  · rw [may_cong (addS_old (by decide) e) (addS_old (by decide) e) (fun r => addS_old (by decide) e) (fun r => addS_old (by decide) e) (fun r => addS_old (by decide) e) (o (by decide) (by decide) (by decide) (by decide) (by decide) (by decide)) (o (by decide) (by decide) (by decide) (by decide) (by decide) (by decide))]
    exact hH d hd h8
theorem both_comes (x : Int32) : Both mF_comes mM_comes [.int x] := both_book (f_comes x) (fun M S Q => SF_comes x M S Q) (fun M S Q => SM_comes x M S Q) (fun S hW hH => by
  unfold f_comes
  split
  · split
    · exact hH
    · have := hW.np
      exact addS_HO hW hH (by omega)
  · exact hH)
def f_goes (x : Int32) (S : BS) : Int32 × BS := if inR x (S 0 0 0) = true then (if hr S (v2n x) = true then (nI (cnt (hr (opnI (up S 4 (v2n x) 0 0) (v2n x) (S 1 0 0))) (S 0 0 0)), opnI (up S 4 (v2n x) 0 0) (v2n x) (S 1 0 0)) else (-3, S)) else (-1, S)
theorem SF_goes (x : Int32) (M : Mm) (S : BS) (Q : Po) (hB : BK M S) (hH : HM S) (h : ∀ M', FrC M M' → BK M' (f_goes x S).2 → Q M' (some (.int (f_goes x S).1))) : Call 60 mF_goes [.ref 0, .int x] M Q := by
  have hw := hB.wf.np
  refine Call_of (m := mF_goes) [some (.ref 0), some (.int x)] rfl (fun G => Nat.le_of_ble_eq_true rfl) (fun G => rfl) ?_
  refine g_aload_n dX9_goes_0 rfl ?_
  refine g_getr (j := 0) dX9_goes_1 gc9 rfl (by decide) rfl (by decide) fl_F_13 ?_
  refine g_iload_n dX9_goes_4 rfl ?_
  refine g_call1 dX9_goes_5 clB_isOne ml_F_91 gc0 rfl rfl (by decide) (Nat.le_of_ble_eq_true rfl) ?_
  refine SB_isOne hB x ?_
  refine g_if_ne_b 13 dX9_goes_8 (by decide) (fun c8 => ?_) (fun c8 => ?_)
  · obtain ⟨p, hp, rfl⟩ := inR_true c8
    simp only [f_goes, c8, if_true, v2n_nI (show p < 2 ^ 31 by omega)] at h
    refine g_aload_n dX9_goes_13 rfl ?_
    refine g_getr (j := 0) dX9_goes_14 gc9 rfl (by decide) rfl (by decide) fl_F_13 ?_
    refine g_iload_n dX9_goes_17 rfl ?_
    refine g_call1 dX9_goes_18 clB_isHere ml_F_95 gc0 rfl rfl (by decide) (Nat.le_of_ble_eq_true rfl) ?_
    refine SB_isHere hB (by omega) ?_
    refine g_if_ne_b 27 dX9_goes_21 (by decide) (fun c21 => ?_) (fun c21 => ?_)
    · rw [if_pos c21] at h
      refine g_aload_n dX9_goes_27 rfl ?_
      refine g_getr (j := 0) dX9_goes_28 gc9 rfl (by decide) rfl (by decide) fl_F_13 ?_
      refine g_iload_n dX9_goes_31 rfl ?_
      refine g_call1 dX9_goes_32 clB_leave ml_F_98 gc0 rfl rfl (by decide) (Nat.le_of_ble_eq_true rfl) ?_
      refine SB_leave hB hp (fun M' hE hB' => ?_)
      refine g_aload_n dX9_goes_35 rfl ?_
      refine g_getr (j := 0) dX9_goes_36 gc9 rfl (by decide) rfl (by decide) fl_F_13 ?_
      refine g_call0 dX9_goes_39 clB_countHere ml_F_102 gc0 rfl rfl (by decide) (Nat.le_of_ble_eq_true rfl) ?_
      refine SB_countHere hB' ?_
      refine g_ireturn dX9_goes_42 rfl (by first | rfl | exact nar_bI _) ?_
      exact h M' (FrC.of hE (by decide)) hB'
    · rw [if_neg (by rw [c21]; decide)] at h
      refine g_bipush ((-3)) dX9_goes_24 kb_m3 ?_
      refine g_ireturn dX9_goes_26 rfl (by first | rfl | exact nar_bI _) ?_
      exact h M FrC.rf hB
  · simp only [f_goes, c8, Bool.false_eq_true, if_false] at h
    refine g_iconst ((-1)) dX9_goes_11 ki_m1 ?_
    refine g_ireturn dX9_goes_12 rfl (by first | rfl | exact nar_bI _) ?_
    exact h M FrC.rf hB
theorem MK.gone {w : Nat → Int32} {S : BS} (hM : MK w S) {p : Nat} (hp : p < S 0 0 0) : MK (upd w (3 + p) (nI 0)) (up S 4 p 0 0) := by
  have hnp := hM.wf.np
  have hnd := hM.wf.nd
  have hnr := fun p (hp : p < S 0 0 0) => hM.wf.nr (p := p) (by omega)
  obtain ⟨w0, a1, a2, a3, a4, a5, a6, a7, a8, a9⟩ := hM
  have k : ∀ j, j ≠ 3 + p → upd w (3 + p) (nI 0) j = w j := fun j hj => upd_off hj
  refine ⟨?_, by rw [k 0 (by omega)]; exact a1, by rw [k 1 (by omega)]; exact a2, by rw [k 2 (by omega)]; exact a3, fun q hq => ?_, fun q j hq hj => ?_, fun q j hq hj => ?_, fun e he => ?_, fun q e hq he => ?_, a9.keep (fun j hj => k j (by omega))⟩
  · obtain ⟨b1, b2, b3, b4, b5, b6, b7, b8, b9, b10, b11⟩ := w0
    refine ⟨b1, b2, fun q hq => ?_, fun q hq => ?_, b5, b6, b7, b8, b9, b10, b11⟩
    · by_cases e : q = p
      · subst e; rw [up_at]; omega
      · rw [up_off (by omega)]; exact b3 q hq
    · have hq2 : S 0 0 0 ≤ q := hq
      rw [up_off (by omega)]; exact b4 q hq
  · have hq2 : q < S 0 0 0 := hq
    rw [k (11 + q) (by omega), k (51 + q) (by omega)]
    refine ⟨?_, (a4 q hq).2.1, (a4 q hq).2.2⟩
    by_cases e : q = p
    · subst e; rw [upd_at, up_at]
    · rw [k (3 + q) (by omega), up_off (by omega)]; exact (a4 q hq).1
  · have hq2 : q < S 0 0 0 := hq
    rw [k _ (by omega)]; exact a5 q j hq hj
  · have hq2 : q < S 0 0 0 := hq
    have := hnr q hq2
    rw [k _ (by omega), k _ (by omega), k _ (by omega)]; exact a6 q j hq hj
  · rw [k _ (by omega), k _ (by omega), k _ (by omega)]; exact a7 e he
  · rw [k _ (by omega)]; exact a8 q e hq he
theorem SM_goes (x : Int32) (M : Mm) (S : BS) (Q : Po) (hM : MK (M 58) S) (hC : MC M) (hH : HM S) (h : ∀ M', FrM M M' → MK (M' 58) (f_goes x S).2 → Q M' (some (.int (f_goes x S).1))) : Call 60 mM_goes [.ref 57, .int x] M Q := by
  have hw := hM.wf.np
  refine Call_of (m := mM_goes) [some (.ref 57), some (.int x)] rfl (fun G => Nat.le_of_ble_eq_true rfl) (fun G => rfl) ?_
  refine g_aload_n dX10_goes_0 rfl ?_
  refine g_iload_n dX10_goes_1 rfl ?_
  refine g_call1 dX10_goes_2 clM_isOne ml_M_72 gc10 rfl rfl (by decide) (Nat.le_of_ble_eq_true rfl) ?_
  refine SM_isOne hM x ?_
  refine g_if_ne_b 10 dX10_goes_5 (by decide) (fun c5 => ?_) (fun c5 => ?_)
  · obtain ⟨p, hp, rfl⟩ := inR_true c5
    simp only [f_goes, c5, if_true, v2n_nI (show p < 2 ^ 31 by omega)] at h
    refine g_aload_n dX10_goes_10 rfl ?_
    refine g_iload_n dX10_goes_11 rfl ?_
    refine g_call1 dX10_goes_12 clM_isHere ml_M_100 gc10 rfl rfl (by decide) (Nat.le_of_ble_eq_true rfl) ?_
    refine SM_isHere hM (by omega) ?_
    refine g_if_ne_b 21 dX10_goes_15 (by decide) (fun c15 => ?_) (fun c15 => ?_)
    · rw [if_pos c15] at h
      refine g_aload_n dX10_goes_21 rfl ?_
      refine g_getr (j := 0) dX10_goes_22 gc10 rfl (by decide) rfl (by decide) fl_M_9 ?_
      refine g_iconst (nI 3) dX10_goes_25 ki_3 ?_
      refine g_iload_n dX10_goes_26 rfl ?_
      first | refine g_iadd_n dX10_goes_27 ?_ | refine g_iadd dX10_goes_27 ?_
      refine g_iconst (nI 0) dX10_goes_28 ki_0 ?_
      refine g_iast_n dX10_goes_29 (by first | rfl | assumption) (by first | decide | assumption) (by omega) (by omega) ?_
      refine g_aload_n dX10_goes_30 rfl ?_
      refine g_iload_n dX10_goes_31 rfl ?_
      refine g_call1 dX10_goes_32 clM_opensBarred ml_M_109 gc10 rfl rfl (by decide) (Nat.le_of_ble_eq_true rfl) ?_
      refine SM_opensBarred (by rw [mset_row]; exact hM.gone hp) (by omega) (fun M' hE hM' => ?_)
      refine g_aload_n dX10_goes_35 rfl ?_
      refine g_call0 dX10_goes_36 clM_hereMany ml_M_96 gc10 rfl rfl (by decide) (Nat.le_of_ble_eq_true rfl) ?_
      refine SM_hereMany hM' ?_
      refine g_ireturn dX10_goes_39 rfl (by first | rfl | exact nar_bI _) ?_
      exact h M' (FrM.of ((EqO.set (by decide)).tr hE) (by decide)) hM'
    · rw [if_neg (by rw [c15]; decide)] at h
      refine g_bipush ((-3)) dX10_goes_18 kb_m3 ?_
      refine g_ireturn dX10_goes_20 rfl (by first | rfl | exact nar_bI _) ?_
      exact h M FrM.rf hM
  · simp only [f_goes, c5, Bool.false_eq_true, if_false] at h
    refine g_iconst ((-1)) dX10_goes_8 ki_m1 ?_
    refine g_ireturn dX10_goes_9 rfl (by first | rfl | exact nar_bI _) ?_
    exact h M FrM.rf hM
theorem opnI_HO {S : BS} {p : Nat} (hH : ∀ d, d < S 1 0 0 → S 12 d 0 < 8 → S 12 d 0 ≠ p → mayB S (S 12 d 0) d = true) : HM (opnI S p (S 1 0 0)) := by
  intro d hd h8
  rw [opnI_oth (by decide)] at hd
  rw [opnI_may]
  have hoi : opnI S p (S 1 0 0) 12 d 0 = if S 12 d 0 = p ∧ mayB S p d = false then 8 else S 12 d 0 := by
    unfold opnI
    by_cases z : S 12 d 0 = p ∧ mayB S p d = false
    · rw [if_pos z, if_pos ⟨rfl, rfl, hd, z⟩]
    · rw [if_neg z, if_neg (fun q => z q.2.2.2)]
  rw [hoi] at h8 ⊢
  split at h8
  · omega
  · rename_i z
    rw [if_neg z]
    by_cases e : S 12 d 0 = p
    · rw [e]
      cases hm : mayB S p d with
      | true => rfl
      | false => exact absurd ⟨e, hm⟩ z
    · exact hH d hd h8 e
theorem both_goes (x : Int32) : Both mF_goes mM_goes [.int x] := both_book (f_goes x) (fun M S Q => SF_goes x M S Q) (fun M S Q => SM_goes x M S Q) (fun S hW hH => by
  unfold f_goes
  by_cases hx : inR x (S 0 0 0) = true
  · obtain ⟨p, hp, rfl⟩ := inR_true hx
    have hw := hW.np
    rw [if_pos hx, v2n_nI (by omega)]
    split
    · refine opnI_HO (S := up S 4 p 0 0) (p := p) (fun d hd h8 hne => ?_)
      have e12 : up S 4 p 0 0 12 d 0 = S 12 d 0 := up_off (by omega)
      rw [e12] at h8 hne ⊢
      rw [may_cong (up_off (by omega)) (up_off (by omega)) (fun r => up_off (by omega)) (fun r => up_off (by omega)) (fun r => up_off (by omega)) (up_off (by omega)) (up_off (by omega))]
      exact hH d hd h8
    · exact hH
  · rw [if_neg hx]; exact hH)
/-! past, of, neutral, frees -/
theorem inJ_big {x : Int32} {c : Int64} {n : Nat} (h : c.toInt + 1 = n) : inJ x.toInt64 0 c = inR x n := inJ_L h
def f_past (x k v : Int32) (S : BS) : Int32 × BS := if inR x (S 0 0 0) = true ∧ inR k 4 = true then (if inR v 1000 = true then (nI (S 5 (v2n x) (v2n k)), up S 5 (v2n x) (v2n k) (v2n v)) else (-2, S)) else (-1, S)
theorem SF_past (x k v : Int32) (M : Mm) (S : BS) (Q : Po) (hB : BK M S) (hH : HM S) (h : ∀ M', FrC M M' → BK M' (f_past x k v S).2 → Q M' (some (.int (f_past x k v S).1))) : Call 60 mF_past [.ref 0, .int x, .int k, .int v] M Q := by
  have hw := hB.wf.np
  refine Call_of (m := mF_past) [some (.ref 0), some (.int x), some (.int k), some (.int v), none] rfl (fun G => Nat.le_of_ble_eq_true rfl) (fun G => rfl) ?_
  refine g_aload_n dX9_past_0 rfl ?_
  refine g_getr (j := 0) dX9_past_1 gc9 rfl (by decide) rfl (by decide) fl_F_13 ?_
  refine g_iload_n dX9_past_4 rfl ?_
  refine g_call1 dX9_past_5 clB_isOne ml_F_91 gc0 rfl rfl (by decide) (Nat.le_of_ble_eq_true rfl) ?_
  refine SB_isOne hB x ?_
  refine g_if_eq_b 18 dX9_past_8 (by decide) (fun c8 => ?_) (fun c8 => ?_)
  · rw [f_past, if_neg (by rw [c8]; simp)] at h
    refine g_iconst ((-1)) dX9_past_18 ki_m1 ?_
    refine g_ireturn dX9_past_19 rfl (by first | rfl | exact nar_bI _) ?_
    exact h M FrC.rf hB
  · refine g_iload_n dX9_past_11 rfl ?_
    refine g_calls1 dX9_past_12 clF_isKind ml_F_106 (Nat.le_of_ble_eq_true rfl) ?_
    refine SF_isKind k ?_
    refine g_if_ne_b 20 dX9_past_15 (by decide) (fun c15 => ?_) (fun c15 => ?_)
    · obtain ⟨p, hp, rfl⟩ := inR_true c8
      obtain ⟨j, hj, rfl⟩ := inR_true c15
      rw [f_past, if_pos ⟨c8, c15⟩, v2n_nI (show p < 2 ^ 31 by omega), v2n_nI (show j < 2 ^ 31 by omega)] at h
      refine g_iload_n dX9_past_20 rfl ?_
      refine g_if_lt 31 dX9_past_21 (by decide) (fun c21 => ?_) (fun c21 => ?_)
      · rw [if_neg (by rw [inR_f1 c21]; decide)] at h
        refine g_bipush ((-2)) dX9_past_31 kb_m2 ?_
        refine g_ireturn dX9_past_33 rfl (by first | rfl | exact nar_bI _) ?_
        exact h M FrC.rf hB
      · refine g_iload_n dX9_past_24 rfl ?_
        refine g_sipush (nI 999) dX9_past_25 ks_999 ?_
        refine g_icmp_le 34 dX9_past_28 (by decide) (fun c28 => ?_) (fun c28 => ?_)
        · have e : inR v 1000 = true := by
            rw [toInt_lenI (by omega)] at c28
            rw [lt0_toInt] at c21
            exact decide_eq_true (by omega)
          obtain ⟨u, hu, rfl⟩ := inR_true e
          rw [if_pos e, v2n_nI (show u < 2 ^ 31 by omega)] at h
          refine g_aload_n dX9_past_34 rfl ?_
          refine g_getr (j := 0) dX9_past_35 gc9 rfl (by decide) rfl (by decide) fl_F_13 ?_
          refine g_iload_n dX9_past_38 rfl ?_
          refine g_iload_n dX9_past_39 rfl ?_
          refine g_call2 dX9_past_40 clB_pastOf ml_F_109 gc0 rfl rfl (by decide) (Nat.le_of_ble_eq_true rfl) ?_
          refine SB_pastOf hB hp hj ?_
          refine g_ist5_4 dX9_past_43 (by decide) rfl ?_
          refine g_aload_n dX9_past_45 rfl ?_
          refine g_getr (j := 0) dX9_past_46 gc9 rfl (by decide) rfl (by decide) fl_F_13 ?_
          refine g_iload_n dX9_past_49 rfl ?_
          refine g_iload_n dX9_past_50 rfl ?_
          refine g_iload_n dX9_past_51 rfl ?_
          refine g_call3 dX9_past_52 clB_putPast ml_F_113 gc0 rfl rfl (by decide) (Nat.le_of_ble_eq_true rfl) ?_
          refine SB_putPast hB hp hj ?_
          refine g_iload dX9_past_55 rfl ?_
          refine g_ireturn dX9_past_57 rfl (by first | rfl | exact nar_bI _) ?_
          exact h _ (FrC.of (EqO.set (L := [5]) (by decide)) (by decide)) (BKpast1 hB hp hj (by omega))
        · rw [if_neg (by
            rw [toInt_lenI (by omega)] at c28
            intro q
            have := of_decide_eq_true q
            omega)] at h
          refine g_bipush ((-2)) dX9_past_31 kb_m2 ?_
          refine g_ireturn dX9_past_33 rfl (by first | rfl | exact nar_bI _) ?_
          exact h M FrC.rf hB
    · rw [f_past, if_neg (by rw [c15]; simp)] at h
      refine g_iconst ((-1)) dX9_past_18 ki_m1 ?_
      refine g_ireturn dX9_past_19 rfl (by first | rfl | exact nar_bI _) ?_
      exact h M FrC.rf hB
theorem MKpast1 {w : Nat → Int32} {S : BS} (hM : MK w S) {p k v : Nat} (hp : p < S 0 0 0) (hk : k < 4) (hv : v ≤ 999) : MK (upd w (19 + 4 * p + k) (nI v)) (up S 5 p k v) := by
  have hnp := hM.wf.np
  have hnd := hM.wf.nd
  have hnr := fun p (hp : p < S 0 0 0) => hM.wf.nr (p := p) (by omega)
  obtain ⟨w0, a1, a2, a3, a4, a5, a6, a7, a8, a9⟩ := hM
  have ky : ∀ j, j ≠ 19 + 4 * p + k → upd w (19 + 4 * p + k) (nI v) j = w j := fun j hj => upd_off hj
  refine ⟨?_, by rw [ky 0 (by omega)]; exact a1, by rw [ky 1 (by omega)]; exact a2, by rw [ky 2 (by omega)]; exact a3, fun q hq => ?_, fun q j hq hj => ?_, fun q j hq hj => ?_, fun e he => ?_, fun q e hq he => ?_, a9.keep (fun j hj => ky j (by omega))⟩
  · obtain ⟨b1, b2, b3, b4, b5, b6, b7, b8, b9, b10, b11⟩ := w0
    refine ⟨b1, b2, b3, b4, b5, fun q j hq hj => ?_, b7, b8, b9, b10, b11⟩
    by_cases e : q = p ∧ j = k
    · obtain ⟨rfl, rfl⟩ := e; rw [up_at]; exact hv
    · rw [up_off (by omega)]; exact b6 q j hq hj
  · have hq2 : q < S 0 0 0 := hq
    rw [ky (3 + q) (by omega), ky (11 + q) (by omega), ky (51 + q) (by omega)]; exact a4 q hq
  · have hq2 : q < S 0 0 0 := hq
    by_cases e : q = p ∧ j = k
    · obtain ⟨rfl, rfl⟩ := e; rw [upd_at, up_at]
    · rw [ky _ (by omega), up_off (by omega)]; exact a5 q j hq hj
  · have hq2 : q < S 0 0 0 := hq
    have := hnr q hq2
    rw [ky _ (by omega), ky _ (by omega), ky _ (by omega)]; exact a6 q j hq hj
  · have he2 : e < S 1 0 0 := he
    rw [ky _ (by omega), ky _ (by omega), ky _ (by omega)]; exact a7 e he
  · have he2 : e < S 1 0 0 := he
    rw [ky _ (by omega)]; exact a8 q e hq he
theorem SM_past_ (x k v : Int32) (M : Mm) (S : BS) (Q : Po) (hM : MK (M 58) S) (hC : MC M) (hH : HM S) (h : ∀ M', FrM M M' → MK (M' 58) (f_past x k v S).2 → Q M' (some (.int (f_past x k v S).1))) : Call 60 mM_past_ [.ref 57, .int x, .int k, .int v] M Q := by
  have hw := hM.wf.np
  refine Call_of (m := mM_past_) [some (.ref 57), some (.int x), some (.int k), some (.int v), none] rfl (fun G => Nat.le_of_ble_eq_true rfl) (fun G => rfl) ?_
  refine g_aload_n dX10_past__0 rfl ?_
  refine g_iload_n dX10_past__1 rfl ?_
  refine g_call1 dX10_past__2 clM_isOne ml_M_72 gc10 rfl rfl (by decide) (Nat.le_of_ble_eq_true rfl) ?_
  refine SM_isOne hM x ?_
  refine g_if_eq_b 15 dX10_past__5 (by decide) (fun c5 => ?_) (fun c5 => ?_)
  · rw [f_past, if_neg (by rw [c5]; simp)] at h
    refine g_iconst ((-1)) dX10_past__15 ki_m1 ?_
    refine g_ireturn dX10_past__16 rfl (by first | rfl | exact nar_bI _) ?_
    exact h M FrM.rf hM
  · refine g_iload_n dX10_past__8 rfl ?_
    refine g_calls1 dX10_past__9 clM_isKind ml_M_117 (Nat.le_of_ble_eq_true rfl) ?_
    refine SM_isKind k ?_
    refine g_if_ne_b 17 dX10_past__12 (by decide) (fun c12 => ?_) (fun c12 => ?_)
    · obtain ⟨p, hp, rfl⟩ := inR_true c5
      obtain ⟨j, hj, rfl⟩ := inR_true c12
      rw [f_past, if_pos ⟨c5, c12⟩, v2n_nI (show p < 2 ^ 31 by omega), v2n_nI (show j < 2 ^ 31 by omega)] at h
      refine g_iload_n dX10_past__17 rfl ?_
      refine g_i2l dX10_past__18 ?_
      refine g_lconst (0) dX10_past__19 (by decide) ?_
      refine g_ldc2w (999) dX10_past__20 kl_M_120 ?_
      refine g_calls3 dX10_past__23 clM_in ml_M_68 (Nat.le_of_ble_eq_true rfl) ?_
      refine SM_in _ _ _ ?_
      rw [inJ_L (n := 1000) (by decide)]
      refine g_if_ne_b 32 dX10_past__26 (by decide) (fun c26 => ?_) (fun c26 => ?_)
      · obtain ⟨u, hu, rfl⟩ := inR_true c26
        rw [if_pos c26, v2n_nI (show u < 2 ^ 31 by omega)] at h
        refine g_aload_n dX10_past__32 rfl ?_
        refine g_iload_n dX10_past__33 rfl ?_
        refine g_iload_n dX10_past__34 rfl ?_
        refine g_call2 dX10_past__35 clM_past ml_M_82 gc10 rfl rfl (by decide) (Nat.le_of_ble_eq_true rfl) ?_
        refine SM_past hM hp hj ?_
        refine g_ist5_4 dX10_past__38 (by decide) rfl ?_
        refine g_aload_n dX10_past__40 rfl ?_
        refine g_getr (j := 0) dX10_past__41 gc10 rfl (by decide) rfl (by decide) fl_M_9 ?_
        refine g_bipush (nI 19) dX10_past__44 kb_19 ?_
        refine g_iconst (nI 4) dX10_past__46 ki_4 ?_
        refine g_iload_n dX10_past__47 rfl ?_
        first | refine g_imul_n dX10_past__48 ?_ | refine g_imul dX10_past__48 ?_
        first | refine g_iadd_n dX10_past__49 ?_ | refine g_iadd dX10_past__49 ?_
        refine g_iload_n dX10_past__50 rfl ?_
        first | refine g_iadd_n dX10_past__51 ?_ | refine g_iadd dX10_past__51 ?_
        refine g_iload_n dX10_past__52 rfl ?_
        refine g_iast_n dX10_past__53 (by first | rfl | assumption) (by first | decide | assumption) (by omega) (by omega) ?_
        refine g_iload dX10_past__54 rfl ?_
        refine g_ireturn dX10_past__56 rfl (by first | rfl | exact nar_bI _) ?_
        refine h _ (FrM.of (EqO.set (L := [58]) (by decide)) (by decide)) ?_
        rw [mset_row]
        exact MKpast1 hM hp hj (by omega)
      · rw [if_neg (by rw [c26]; decide)] at h
        refine g_bipush ((-2)) dX10_past__29 kb_m2 ?_
        refine g_ireturn dX10_past__31 rfl (by first | rfl | exact nar_bI _) ?_
        exact h M FrM.rf hM
    · rw [f_past, if_neg (by rw [c12]; simp)] at h
      refine g_iconst ((-1)) dX10_past__15 ki_m1 ?_
      refine g_ireturn dX10_past__16 rfl (by first | rfl | exact nar_bI _) ?_
      exact h M FrM.rf hM
theorem both_past (x k v : Int32) : Both mF_past mM_past_ [.int x, .int k, .int v] := both_book (f_past x k v) (fun M S Q => SF_past x k v M S Q) (fun M S Q => SM_past_ x k v M S Q) (fun S hW hH => by
  unfold f_past
  split
  · split
    · intro d hd h8
      dsimp only at hd h8 ⊢
      rw [up_off (by omega)] at hd
      have e12 : up S 5 (v2n x) (v2n k) (v2n v) 12 d 0 = S 12 d 0 := up_off (by omega)
      rw [e12] at h8 ⊢
      rw [may_cong (up_off (by omega)) (up_off (by omega)) (fun r => up_off (by omega)) (fun r => up_off (by omega)) (fun r => up_off (by omega)) (up_off (by omega)) (up_off (by omega))]
      exact hH d hd h8
    · exact hH
  · exact hH)
def f_neutral (k : Int32) (S : BS) : Int32 × BS := if inR k 4 = true then (nI (neuN S (v2n k)), S) else (-1, S)
theorem SF_neutral (k : Int32) (M : Mm) (S : BS) (Q : Po) (hB : BK M S) (hH : HM S) (h : ∀ M', FrC M M' → BK M' (f_neutral k S).2 → Q M' (some (.int (f_neutral k S).1))) : Call 60 mF_neutral [.ref 0, .int k] M Q := by
  refine Call_of (m := mF_neutral) [some (.ref 0), some (.int k)] rfl (fun G => Nat.le_of_ble_eq_true rfl) (fun G => rfl) ?_
  refine g_iload_n dX9_neutral_0 rfl ?_
  refine g_calls1 dX9_neutral_1 clF_isKind ml_F_106 (Nat.le_of_ble_eq_true rfl) ?_
  refine SF_isKind k ?_
  refine g_if_eq_b 18 dX9_neutral_4 (by decide) (fun c4 => ?_) (fun c4 => ?_)
  · rw [f_neutral, if_neg (by rw [c4]; decide)] at h
    refine g_iconst ((-1)) dX9_neutral_18 ki_m1 ?_
    refine g_ireturn dX9_neutral_19 rfl (by first | rfl | exact nar_bI _) ?_
    exact h M FrC.rf hB
  · obtain ⟨j, hj, rfl⟩ := inR_true c4
    rw [f_neutral, if_pos c4, v2n_nI (show j < 2 ^ 31 by omega)] at h
    refine g_aload_n dX9_neutral_7 rfl ?_
    refine g_getr (j := 0) dX9_neutral_8 gc9 rfl (by decide) rfl (by decide) fl_F_13 ?_
    refine g_iload_n dX9_neutral_11 rfl ?_
    refine g_call1 dX9_neutral_12 clB_neutralPast ml_F_139 gc0 rfl rfl (by decide) (Nat.le_of_ble_eq_true rfl) ?_
    refine SB_neutralPast hB hj ?_
    refine g_goto 19 dX9_neutral_15 (by decide) ?_
    refine g_ireturn dX9_neutral_19 rfl (by first | rfl | exact nar_bI _) ?_
    exact h M FrC.rf hB
theorem SM_neutral (k : Int32) (M : Mm) (S : BS) (Q : Po) (hM : MK (M 58) S) (hC : MC M) (hH : HM S) (h : ∀ M', FrM M M' → MK (M' 58) (f_neutral k S).2 → Q M' (some (.int (f_neutral k S).1))) : Call 60 mM_neutral [.ref 57, .int k] M Q := by
  refine Call_of (m := mM_neutral) [some (.ref 57), some (.int k)] rfl (fun G => Nat.le_of_ble_eq_true rfl) (fun G => rfl) ?_
  refine g_iload_n dX10_neutral_0 rfl ?_
  refine g_calls1 dX10_neutral_1 clM_isKind ml_M_117 (Nat.le_of_ble_eq_true rfl) ?_
  refine SM_isKind k ?_
  refine g_if_eq_b 15 dX10_neutral_4 (by decide) (fun c4 => ?_) (fun c4 => ?_)
  · rw [f_neutral, if_neg (by rw [c4]; decide)] at h
    refine g_iconst ((-1)) dX10_neutral_15 ki_m1 ?_
    refine g_ireturn dX10_neutral_16 rfl (by first | rfl | exact nar_bI _) ?_
    exact h M FrM.rf hM
  · obtain ⟨j, hj, rfl⟩ := inR_true c4
    rw [f_neutral, if_pos c4, v2n_nI (show j < 2 ^ 31 by omega)] at h
    refine g_aload_n dX10_neutral_7 rfl ?_
    refine g_iload_n dX10_neutral_8 rfl ?_
    refine g_call1 dX10_neutral_9 clM_neutralOf ml_M_106 gc10 rfl rfl (by decide) (Nat.le_of_ble_eq_true rfl) ?_
    refine SM_neutralOf hM hj ?_
    refine g_goto 16 dX10_neutral_12 (by decide) ?_
    refine g_ireturn dX10_neutral_16 rfl (by first | rfl | exact nar_bI _) ?_
    exact h M FrM.rf hM
theorem both_neutral (k : Int32) : Both mF_neutral mM_neutral [.int k] := both_book (f_neutral k) (fun M S Q => SF_neutral k M S Q) (fun M S Q => SM_neutral k M S Q) (fun S hW hH => by unfold f_neutral; split <;> exact hH)
def f_frees (x : Int32) (S : BS) : Int32 × BS := if inR x (S 0 0 0) = true then (nI (S 6 (v2n x) 0), up S 6 (v2n x) 0 0) else (-1, S)
theorem BKfrees {M : Mm} {S : BS} (hB : BK M S) {p : Nat} (hp : p < S 0 0 0) : BK (mset M 6 p (nI 0)) (up S 6 p 0 0) := by
  obtain ⟨w, a1, a2, a3, a4, a5, a6, a7, a8, a9, a10, a11⟩ := hB
  refine ⟨?_, a1, a2, a3, a4, a5, a6, a7, fun q hq => ?_, fun q r hq hr => ?_, a10, a11⟩
  · obtain ⟨b1, b2, b3, b4, b5, b6, b7, b8, b9, b10, b11⟩ := w
    refine ⟨b1, b2, b3, b4, b5, b6, fun q hq => ?_, b8, b9, b10, b11⟩
    by_cases e : q = p
    · subst e; rw [up_at]; omega
    · rw [up_off (by omega)]; exact b7 q hq
  · by_cases e : q = p
    · subst e; rw [mset_at, up_at]
    · rw [mset_off (by omega), up_off (by omega)]; exact a8 q hq
  · by_cases e : q = p
    · subst e; rw [up_at] at hr; omega
    · rw [up_off (by omega)] at hr; exact a9 q r hq hr
theorem MKfrees {w : Nat → Int32} {S : BS} (hM : MK w S) {p : Nat} (hp : p < S 0 0 0) : MK (upd w (51 + p) (nI 0)) (up S 6 p 0 0) := by
  have hnp := hM.wf.np
  have hnd := hM.wf.nd
  have hnr := fun p (hp : p < S 0 0 0) => hM.wf.nr (p := p) (by omega)
  obtain ⟨w0, a1, a2, a3, a4, a5, a6, a7, a8, a9⟩ := hM
  have ky : ∀ j, j ≠ 51 + p → upd w (51 + p) (nI 0) j = w j := fun j hj => upd_off hj
  refine ⟨?_, by rw [ky 0 (by omega)]; exact a1, by rw [ky 1 (by omega)]; exact a2, by rw [ky 2 (by omega)]; exact a3, fun q hq => ?_, fun q j hq hj => ?_, fun q j hq hj => ?_, fun e he => ?_, fun q e hq he => ?_, a9.keep (fun j hj => ky j (by omega))⟩
  · obtain ⟨b1, b2, b3, b4, b5, b6, b7, b8, b9, b10, b11⟩ := w0
    refine ⟨b1, b2, b3, b4, b5, b6, fun q hq => ?_, b8, b9, b10, b11⟩
    by_cases e : q = p
    · subst e; rw [up_at]; omega
    · rw [up_off (by omega)]; exact b7 q hq
  · have hq2 : q < S 0 0 0 := hq
    rw [ky (3 + q) (by omega), ky (11 + q) (by omega)]
    refine ⟨(a4 q hq).1, (a4 q hq).2.1, ?_⟩
    by_cases e : q = p
    · subst e; rw [upd_at, up_at]
    · rw [ky _ (by omega), up_off (by omega)]; exact (a4 q hq).2.2
  · have hq2 : q < S 0 0 0 := hq
    rw [ky _ (by omega)]; exact a5 q j hq hj
  · have hq2 : q < S 0 0 0 := hq
    by_cases e : q = p
    · subst e; rw [up_at] at hj; omega
    · rw [up_off (by omega)] at hj
      have := hnr q hq2
      rw [ky _ (by omega), ky _ (by omega), ky _ (by omega)]; exact a6 q j hq hj
  · have he2 : e < S 1 0 0 := he
    rw [ky _ (by omega), ky _ (by omega), ky _ (by omega)]; exact a7 e he
  · have he2 : e < S 1 0 0 := he
    rw [ky _ (by omega)]; exact a8 q e hq he
theorem SF_frees (x : Int32) (M : Mm) (S : BS) (Q : Po) (hB : BK M S) (hH : HM S) (h : ∀ M', FrC M M' → BK M' (f_frees x S).2 → Q M' (some (.int (f_frees x S).1))) : Call 60 mF_frees [.ref 0, .int x] M Q := by
  have hw := hB.wf.np
  refine Call_of (m := mF_frees) [some (.ref 0), some (.int x)] rfl (fun G => Nat.le_of_ble_eq_true rfl) (fun G => rfl) ?_
  refine g_aload_n dX9_frees_0 rfl ?_
  refine g_getr (j := 0) dX9_frees_1 gc9 rfl (by decide) rfl (by decide) fl_F_13 ?_
  refine g_iload_n dX9_frees_4 rfl ?_
  refine g_call1 dX9_frees_5 clB_isOne ml_F_91 gc0 rfl rfl (by decide) (Nat.le_of_ble_eq_true rfl) ?_
  refine SB_isOne hB x ?_
  refine g_if_eq_b 22 dX9_frees_8 (by decide) (fun c8 => ?_) (fun c8 => ?_)
  · rw [f_frees, if_neg (by rw [c8]; decide)] at h
    refine g_iconst ((-1)) dX9_frees_22 ki_m1 ?_
    refine g_ireturn dX9_frees_23 rfl (by first | rfl | exact nar_bI _) ?_
    exact h M FrC.rf hB
  · obtain ⟨p, hp, rfl⟩ := inR_true c8
    rw [f_frees, if_pos c8, v2n_nI (show p < 2 ^ 31 by omega)] at h
    refine g_aload_n dX9_frees_11 rfl ?_
    refine g_getr (j := 0) dX9_frees_12 gc9 rfl (by decide) rfl (by decide) fl_F_13 ?_
    refine g_iload_n dX9_frees_15 rfl ?_
    refine g_call1 dX9_frees_16 clB_dropRules ml_F_161 gc0 rfl rfl (by decide) (Nat.le_of_ble_eq_true rfl) ?_
    refine SB_dropRules hB hp ?_
    refine g_goto 23 dX9_frees_19 (by decide) ?_
    refine g_ireturn dX9_frees_23 rfl (by first | rfl | exact nar_bI _) ?_
    exact h _ (FrC.of (EqO.set (L := [6]) (by decide)) (by decide)) (BKfrees hB hp)
theorem SM_frees (x : Int32) (M : Mm) (S : BS) (Q : Po) (hM : MK (M 58) S) (hC : MC M) (hH : HM S) (h : ∀ M', FrM M M' → MK (M' 58) (f_frees x S).2 → Q M' (some (.int (f_frees x S).1))) : Call 60 mM_frees [.ref 57, .int x] M Q := by
  have hw := hM.wf.np
  refine Call_of (m := mM_frees) [some (.ref 57), some (.int x), none] rfl (fun G => Nat.le_of_ble_eq_true rfl) (fun G => rfl) ?_
  refine g_aload_n dX10_frees_0 rfl ?_
  refine g_iload_n dX10_frees_1 rfl ?_
  refine g_call1 dX10_frees_2 clM_isOne ml_M_72 gc10 rfl rfl (by decide) (Nat.le_of_ble_eq_true rfl) ?_
  refine SM_isOne hM x ?_
  refine g_if_ne_b 10 dX10_frees_5 (by decide) (fun c5 => ?_) (fun c5 => ?_)
  · obtain ⟨p, hp, rfl⟩ := inR_true c5
    rw [f_frees, if_pos c5, v2n_nI (show p < 2 ^ 31 by omega)] at h
    refine g_aload_n dX10_frees_10 rfl ?_
    refine g_getr (j := 0) dX10_frees_11 gc10 rfl (by decide) rfl (by decide) fl_M_9 ?_
    refine g_bipush (nI 51) dX10_frees_14 kb_51 ?_
    refine g_iload_n dX10_frees_16 rfl ?_
    first | refine g_iadd_n dX10_frees_17 ?_ | refine g_iadd dX10_frees_17 ?_
    refine g_iald_n dX10_frees_18 (by first | rfl | assumption) (by first | decide | assumption) (by omega) (by omega) ?_
    try simp (disch := omega) only [hM.nr]
    refine g_ist3_2 dX10_frees_19 (by decide) rfl ?_
    refine g_aload_n dX10_frees_20 rfl ?_
    refine g_getr (j := 0) dX10_frees_21 gc10 rfl (by decide) rfl (by decide) fl_M_9 ?_
    refine g_bipush (nI 51) dX10_frees_24 kb_51 ?_
    refine g_iload_n dX10_frees_26 rfl ?_
    first | refine g_iadd_n dX10_frees_27 ?_ | refine g_iadd dX10_frees_27 ?_
    refine g_iconst (nI 0) dX10_frees_28 ki_0 ?_
    refine g_iast_n dX10_frees_29 (by first | rfl | assumption) (by first | decide | assumption) (by omega) (by omega) ?_
    refine g_iload_n dX10_frees_30 rfl ?_
    refine g_ireturn dX10_frees_31 rfl (by first | rfl | exact nar_bI _) ?_
    refine h _ (FrM.of (EqO.set (L := [58]) (by decide)) (by decide)) ?_
    rw [mset_row]
    exact MKfrees hM hp
  · rw [f_frees, if_neg (by rw [c5]; decide)] at h
    refine g_iconst ((-1)) dX10_frees_8 ki_m1 ?_
    refine g_ireturn dX10_frees_9 rfl (by first | rfl | exact nar_bI _) ?_
    exact h M FrM.rf hM
theorem both_frees (x : Int32) : Both mF_frees mM_frees [.int x] := both_book (f_frees x) (fun M S Q => SF_frees x M S Q) (fun M S Q => SM_frees x M S Q) (fun S hW hH => by
  unfold f_frees
  split
  · intro d hd h8
    dsimp only at hd h8 ⊢
    rw [up_off (by omega)] at hd
    have e12 : up S 6 (v2n x) 0 0 12 d 0 = S 12 d 0 := up_off (by omega)
    rw [e12] at h8 ⊢
    have hm := hH d hd h8
    by_cases z : S 12 d 0 = v2n x
    · unfold mayB
      rw [z, up_at, Bool.and_eq_true]
      refine ⟨hr_of.mpr ?_, decide_eq_true (fun r hr => absurd hr (Nat.not_lt_zero r))⟩
      rw [up_off (by omega)]
      rw [z] at hm
      exact mayB_here hm
    · rw [may_cong (up_off (by omega)) (up_off (by omega)) (fun r => up_off (by omega)) (fun r => up_off (by omega)) (fun r => up_off (by omega)) (up_off (by omega)) (up_off (by omega))]
      exact hm
  · exact hH)
/-! of -/
def inK (a : Nat) (x : Int32) : Bool := decide ((a : Int) ≤ x.toInt ∧ x.toInt < (a : Int) + 4)
theorem SF_isKindAfter {d : Nat} {M : Mm} {Q : Po} {a : Nat} (x : Int32) (ha : a < 100) (h : Q M (some (.int (bI (inK a x))))) : Call (d + 1) mF_isKindAfter [.int (nI a), .int x] M Q := by
  refine Call_of (m := mF_isKindAfter) [some (.int (nI a)), some (.int x)] rfl (fun G => Nat.le_of_ble_eq_true rfl) (fun G => rfl) ?_
  refine g_iload_n dX9_isKindAfter_0 rfl ?_
  refine g_iload_n dX9_isKindAfter_1 rfl ?_
  refine g_icmp_lt 16 dX9_isKindAfter_2 (by decide) (fun c2 => ?_) (fun c2 => ?_)
  · rw [toInt_ltnI (by omega)] at c2
    refine g_iconst (nI 0) dX9_isKindAfter_16 ki_0 ?_
    refine g_ireturn dX9_isKindAfter_17 rfl (by first | rfl | exact nar_bI _) ?_
    exact qb_f h (decide_eq_false (by omega))
  · rw [toInt_ltnI (by omega)] at c2
    refine g_iload_n dX9_isKindAfter_5 rfl ?_
    refine g_iload_n dX9_isKindAfter_6 rfl ?_
    refine g_iconst (nI 4) dX9_isKindAfter_7 ki_4 ?_
    first | refine g_iadd_n dX9_isKindAfter_8 ?_ | refine g_iadd dX9_isKindAfter_8 ?_
    refine g_icmp_ge 16 dX9_isKindAfter_9 (by decide) (fun c9 => ?_) (fun c9 => ?_)
    · rw [lenI_toInt (by omega)] at c9
      refine g_iconst (nI 0) dX9_isKindAfter_16 ki_0 ?_
      refine g_ireturn dX9_isKindAfter_17 rfl (by first | rfl | exact nar_bI _) ?_
      exact qb_f h (decide_eq_false (by omega))
    · rw [lenI_toInt (by omega)] at c9
      refine g_iconst (nI 1) dX9_isKindAfter_12 ki_1 ?_
      refine g_goto 17 dX9_isKindAfter_13 (by decide) ?_
      refine g_ireturn dX9_isKindAfter_17 rfl (by first | rfl | exact nar_bI _) ?_
      exact qb_t h (decide_eq_true (by omega))
theorem inK_true {a : Nat} {x : Int32} (ha : a < 100) (h : inK a x = true) : ∃ k, k < 4 ∧ x = nI (a + k) := by
  unfold inK at h
  simp only [decide_eq_true_eq] at h
  refine ⟨x.toInt.toNat - a, by omega, ?_⟩
  apply Int32.toInt_inj.mp
  rw [nI_toInt (by omega)]
  omega
theorem inK_nI {a u : Nat} (hu : u < 2 ^ 31) : inK a (nI u) = decide (a ≤ u ∧ u < a + 4) := by
  unfold inK
  rw [nI_toInt hu]
  congr 1
  exact propext ⟨fun q => by omega, fun q => by omega⟩
theorem inK_out {a : Nat} {x : Int32} (ha : a + 4 ≤ 40) (h : inR x 40 = false) : inK a x = false := by
  unfold inR at h
  unfold inK
  simp only [decide_eq_false_iff_not] at h ⊢
  omega
def vo (S : BS) (p u : Nat) : Int32 := if u = 0 then nI (S 3 p 0) else if u = 1 then nI (S 4 p 0) else if u = 2 then nI (burN S p) else if u = 3 then nI (heldAll S p) else if u = 4 then nI (S 6 p 0) else if 10 ≤ u ∧ u < 14 then nI (S 5 p (u - 10)) else if 20 ≤ u ∧ u < 24 then nI (headN S p (u - 20)) else if 30 ≤ u ∧ u < 34 then nI (loadN S p (u - 30)) else -1
def f_of (x w : Int32) (S : BS) : Int32 × BS := (if inR x (S 0 0 0) = true then (if inR w 40 = true then vo S (v2n x) (v2n w) else -1) else -1, S)
theorem SF_of (x w : Int32) (M : Mm) (S : BS) (Q : Po) (hB : BK M S) (hH : HM S) (h : ∀ M', FrC M M' → BK M' (f_of x w S).2 → Q M' (some (.int (f_of x w S).1))) : Call 60 mF_of [.ref 0, .int x, .int w] M Q := by
  have hw := hB.wf.np
  have h2 := h M FrC.rf hB
  unfold f_of at h2
  dsimp only at h2
  clear h
  refine Call_of (m := mF_of) [some (.ref 0), some (.int x), some (.int w)] rfl (fun G => Nat.le_of_ble_eq_true rfl) (fun G => rfl) ?_
  refine g_aload_n dX9_of_0 rfl ?_
  refine g_getr (j := 0) dX9_of_1 gc9 rfl (by decide) rfl (by decide) fl_F_13 ?_
  refine g_iload_n dX9_of_4 rfl ?_
  refine g_call1 dX9_of_5 clB_isOne ml_F_91 gc0 rfl rfl (by decide) (Nat.le_of_ble_eq_true rfl) ?_
  refine SB_isOne hB x ?_
  refine g_if_ne_b 13 dX9_of_8 (by decide) (fun c8 => ?_) (fun c8 => ?_)
  · obtain ⟨p, hp, rfl⟩ := inR_true c8
    rw [if_pos c8, v2n_nI (show p < 2 ^ 31 by omega)] at h2
    have h1 := hB.wf.hN (p := p) (by omega)
    refine g_bipush (nI 10) dX9_of_13 kb_10 ?_
    refine g_iload_n dX9_of_15 rfl ?_
    refine g_calls2 dX9_of_16 clF_isKindAfter ml_F_117 (Nat.le_of_ble_eq_true rfl) ?_
    refine SF_isKindAfter _ (by omega) ?_
    refine g_if_eq_b 35 dX9_of_19 (by decide) (fun c19 => ?_) (fun c19 => ?_)
    · refine g_bipush (nI 20) dX9_of_35 kb_20 ?_
      refine g_iload_n dX9_of_37 rfl ?_
      refine g_calls2 dX9_of_38 clF_isKindAfter ml_F_117 (Nat.le_of_ble_eq_true rfl) ?_
      refine SF_isKindAfter _ (by omega) ?_
      refine g_if_eq_b 57 dX9_of_41 (by decide) (fun c41 => ?_) (fun c41 => ?_)
      · refine g_bipush (nI 30) dX9_of_57 kb_30 ?_
        refine g_iload_n dX9_of_59 rfl ?_
        refine g_calls2 dX9_of_60 clF_isKindAfter ml_F_117 (Nat.le_of_ble_eq_true rfl) ?_
        refine SF_isKindAfter _ (by omega) ?_
        refine g_if_eq_b 79 dX9_of_63 (by decide) (fun c63 => ?_) (fun c63 => ?_)
        · by_cases h5 : inR w 5 = true
          · obtain ⟨u, hu, rfl⟩ := inR_true h5
            rw [if_pos (by rw [inR_nI (by omega)]; exact decide_eq_true (by omega)), v2n_nI (by omega)] at h2
            refine g_iload_n dX9_of_79 rfl ?_
            obtain rfl | rfl | rfl | rfl | rfl : u = 0 ∨ u = 1 ∨ u = 2 ∨ u = 3 ∨ u = 4 := by omega
            · skip
              refine g_tswI (off := 36) 116 dX9_of_80 (by decide) (by decide) (by decide) (by decide) ?_
              refine g_aload_n dX9_of_116 rfl ?_
              refine g_getr (j := 0) dX9_of_117 gc9 rfl (by decide) rfl (by decide) fl_F_13 ?_
              refine g_iload_n dX9_of_120 rfl ?_
              refine g_call1 dX9_of_121 clB_rankOf ml_F_127 gc0 rfl rfl (by decide) (Nat.le_of_ble_eq_true rfl) ?_
              refine SB_rankOf hB hp ?_
              refine g_ireturn dX9_of_124 rfl (by first | rfl | exact nar_bI _) ?_
              exact h2
            · skip
              refine g_tswI (off := 45) 125 dX9_of_80 (by decide) (by decide) (by decide) (by decide) ?_
              refine g_aload_n dX9_of_125 rfl ?_
              refine g_getr (j := 0) dX9_of_126 gc9 rfl (by decide) rfl (by decide) fl_F_13 ?_
              refine g_iload_n dX9_of_129 rfl ?_
              refine g_call1 dX9_of_130 clB_isHere ml_F_95 gc0 rfl rfl (by decide) (Nat.le_of_ble_eq_true rfl) ?_
              refine SB_isHere hB (by omega) ?_
              refine g_if_eq_b 140 dX9_of_133 (by decide) (fun c133 => ?_) (fun c133 => ?_)
              · refine g_iconst (nI 0) dX9_of_140 ki_0 ?_
                refine g_ireturn dX9_of_141 rfl (by first | rfl | exact nar_bI _) ?_
                have h0 : S 4 p 0 = 0 := by
                  unfold hr at c133
                  have : ¬ S 4 p 0 = 1 := by simpa using c133
                  omega
                unfold vo at h2
                rw [if_neg (by omega), if_pos rfl, h0] at h2
                exact h2
              · refine g_iconst (nI 1) dX9_of_136 ki_1 ?_
                refine g_goto 141 dX9_of_137 (by decide) ?_
                refine g_ireturn dX9_of_141 rfl (by first | rfl | exact nar_bI _) ?_
                have h0 : S 4 p 0 = 1 := hr_of.mp c133
                unfold vo at h2
                rw [if_neg (by omega), if_pos rfl, h0] at h2
                exact h2
            · skip
              refine g_tswI (off := 62) 142 dX9_of_80 (by decide) (by decide) (by decide) (by decide) ?_
              refine g_aload_n dX9_of_142 rfl ?_
              refine g_getr (j := 0) dX9_of_143 gc9 rfl (by decide) rfl (by decide) fl_F_13 ?_
              refine g_iload_n dX9_of_146 rfl ?_
              refine g_call1 dX9_of_147 clB_burdenOf ml_F_130 gc0 rfl rfl (by decide) (Nat.le_of_ble_eq_true rfl) ?_
              refine SB_burdenOf hB hp ?_
              refine g_ireturn dX9_of_150 rfl (by first | rfl | exact nar_bI _) ?_
              exact h2
            · skip
              refine g_tswI (off := 71) 151 dX9_of_80 (by decide) (by decide) (by decide) (by decide) ?_
              refine g_aload_n dX9_of_151 rfl ?_
              refine g_getr (j := 0) dX9_of_152 gc9 rfl (by decide) rfl (by decide) fl_F_13 ?_
              refine g_iload_n dX9_of_155 rfl ?_
              refine g_call1 dX9_of_156 clB_countHeldBy ml_F_133 gc0 rfl rfl (by decide) (Nat.le_of_ble_eq_true rfl) ?_
              rw [← hv_p (p := p) (by omega)]
              refine SB_countHeldBy hB (by omega) ?_
              refine g_ireturn dX9_of_159 rfl (by first | rfl | exact nar_bI _) ?_
              exact h2
            · skip
              refine g_tswI (off := 80) 160 dX9_of_80 (by decide) (by decide) (by decide) (by decide) ?_
              refine g_aload_n dX9_of_160 rfl ?_
              refine g_getr (j := 0) dX9_of_161 gc9 rfl (by decide) rfl (by decide) fl_F_13 ?_
              refine g_iload_n dX9_of_164 rfl ?_
              refine g_call1 dX9_of_165 clB_countRulesOf ml_F_136 gc0 rfl rfl (by decide) (Nat.le_of_ble_eq_true rfl) ?_
              refine SB_countRulesOf hB hp ?_
              refine g_ireturn dX9_of_168 rfl (by first | rfl | exact nar_bI _) ?_
              exact h2
          · have hx : w.toInt < 0 ∨ 4 < w.toInt := by
              unfold inR at h5
              simp only [decide_eq_true_eq] at h5
              omega
            have hm : (if inR w 40 = true then vo S p (v2n w) else -1) = (-1 : Int32) := by
              split
              · rename_i h40
                obtain ⟨u, hu, rfl⟩ := inR_true h40
                rw [inK_nI (by omega)] at c19 c41 c63
                rw [nI_toInt (by omega)] at hx
                rw [v2n_nI (by omega)]
                have c19 := of_decide_eq_false c19
                have c41 := of_decide_eq_false c41
                have c63 := of_decide_eq_false c63
                unfold vo
                rw [if_neg (by omega), if_neg (by omega), if_neg (by omega), if_neg (by omega), if_neg (by omega), if_neg (by omega), if_neg (by omega), if_neg (by omega)]
              · rfl
            rw [hm] at h2
            refine g_iload_n dX9_of_79 rfl ?_
            refine g_tswO 169 dX9_of_80 hx (by decide) ?_
            refine g_iconst ((-1)) dX9_of_169 ki_m1 ?_
            refine g_ireturn dX9_of_170 rfl (by first | rfl | exact nar_bI _) ?_
            exact h2
        · obtain ⟨k, hk, rfl⟩ := inK_true (by omega) c63
          rw [if_pos (by rw [inR_nI (by omega)]; exact decide_eq_true (by omega)), v2n_nI (by omega)] at h2
          unfold vo at h2
          rw [if_neg (by omega), if_neg (by omega), if_neg (by omega), if_neg (by omega), if_neg (by omega), if_neg (by omega), if_neg (by omega), if_pos (by omega), show 30 + k - 30 = k by omega] at h2
          refine g_aload_n dX9_of_66 rfl ?_
          refine g_getr (j := 0) dX9_of_67 gc9 rfl (by decide) rfl (by decide) fl_F_13 ?_
          refine g_iload_n dX9_of_70 rfl ?_
          refine g_iload_n dX9_of_71 rfl ?_
          refine g_bipush (nI 30) dX9_of_72 kb_30 ?_
          first | refine g_isub_n dX9_of_74 (by omega) ?_ | refine g_isub dX9_of_74 ?_
          refine g_call2 dX9_of_75 clB_loadOf ml_F_124 gc0 rfl rfl (by decide) (Nat.le_of_ble_eq_true rfl) ?_
          rw [show 30 + k - 30 = k by omega]
          refine SB_loadOf hB hp hk ?_
          refine g_ireturn dX9_of_78 rfl (by first | rfl | exact nar_bI _) ?_
          exact h2
      · obtain ⟨k, hk, rfl⟩ := inK_true (by omega) c41
        rw [if_pos (by rw [inR_nI (by omega)]; exact decide_eq_true (by omega)), v2n_nI (by omega)] at h2
        unfold vo at h2
        rw [if_neg (by omega), if_neg (by omega), if_neg (by omega), if_neg (by omega), if_neg (by omega), if_neg (by omega), if_pos (by omega), show 20 + k - 20 = k by omega] at h2
        refine g_aload_n dX9_of_44 rfl ?_
        refine g_getr (j := 0) dX9_of_45 gc9 rfl (by decide) rfl (by decide) fl_F_13 ?_
        refine g_iload_n dX9_of_48 rfl ?_
        refine g_iload_n dX9_of_49 rfl ?_
        refine g_bipush (nI 20) dX9_of_50 kb_20 ?_
        first | refine g_isub_n dX9_of_52 (by omega) ?_ | refine g_isub dX9_of_52 ?_
        refine g_call2 dX9_of_53 clB_headOf ml_F_121 gc0 rfl rfl (by decide) (Nat.le_of_ble_eq_true rfl) ?_
        rw [show 20 + k - 20 = k by omega]
        refine SB_headOf hB hp hk ?_
        refine g_ireturn dX9_of_56 rfl (by first | rfl | exact nar_bI _) ?_
        exact h2
    · obtain ⟨k, hk, rfl⟩ := inK_true (by omega) c19
      rw [if_pos (by rw [inR_nI (by omega)]; exact decide_eq_true (by omega)), v2n_nI (by omega)] at h2
      unfold vo at h2
      rw [if_neg (by omega), if_neg (by omega), if_neg (by omega), if_neg (by omega), if_neg (by omega), if_pos (by omega), show 10 + k - 10 = k by omega] at h2
      refine g_aload_n dX9_of_22 rfl ?_
      refine g_getr (j := 0) dX9_of_23 gc9 rfl (by decide) rfl (by decide) fl_F_13 ?_
      refine g_iload_n dX9_of_26 rfl ?_
      refine g_iload_n dX9_of_27 rfl ?_
      refine g_bipush (nI 10) dX9_of_28 kb_10 ?_
      first | refine g_isub_n dX9_of_30 (by omega) ?_ | refine g_isub dX9_of_30 ?_
      refine g_call2 dX9_of_31 clB_pastOf ml_F_109 gc0 rfl rfl (by decide) (Nat.le_of_ble_eq_true rfl) ?_
      rw [show 10 + k - 10 = k by omega]
      refine SB_pastOf hB hp hk ?_
      refine g_ireturn dX9_of_34 rfl (by first | rfl | exact nar_bI _) ?_
      exact h2
  · rw [if_neg (by rw [c8]; decide)] at h2
    refine g_iconst ((-1)) dX9_of_11 ki_m1 ?_
    refine g_ireturn dX9_of_12 rfl (by first | rfl | exact nar_bI _) ?_
    exact h2
theorem SM_of (x w : Int32) (M : Mm) (S : BS) (Q : Po) (hM : MK (M 58) S) (hC : MC M) (hH : HM S) (h : ∀ M', FrM M M' → MK (M' 58) (f_of x w S).2 → Q M' (some (.int (f_of x w S).1))) : Call 60 mM_of [.ref 57, .int x, .int w] M Q := by
  have hw := hM.wf.np
  have h2 := h M FrM.rf hM
  unfold f_of at h2
  dsimp only at h2
  clear h
  refine Call_of (m := mM_of) [some (.ref 57), some (.int x), some (.int w), none] rfl (fun G => Nat.le_of_ble_eq_true rfl) (fun G => rfl) ?_
  refine g_aload_n dX10_of_0 rfl ?_
  refine g_iload_n dX10_of_1 rfl ?_
  refine g_call1 dX10_of_2 clM_isOne ml_M_72 gc10 rfl rfl (by decide) (Nat.le_of_ble_eq_true rfl) ?_
  refine SM_isOne hM x ?_
  refine g_if_ne_b 10 dX10_of_5 (by decide) (fun c5 => ?_) (fun c5 => ?_)
  rotate_left
  · rw [if_neg (by rw [c5]; decide)] at h2
    refine g_iconst ((-1)) dX10_of_8 ki_m1 ?_
    refine g_ireturn dX10_of_9 rfl (by first | rfl | exact nar_bI _) ?_
    exact h2
  obtain ⟨p, hp, rfl⟩ := inR_true c5
  rw [if_pos c5, v2n_nI (show p < 2 ^ 31 by omega)] at h2
  by_cases h40 : inR w 40 = true
  · obtain ⟨u, hu, rfl⟩ := inR_true h40
    rw [if_pos h40, v2n_nI (show u < 2 ^ 31 by omega)] at h2
    have hm10 := Nat.mod_lt u (show 0 < 10 by omega)
    refine g_iload_n dX10_of_10 rfl ?_
    refine g_bipush (nI 10) dX10_of_11 kb_10 ?_
    refine g_irem_n dX10_of_13 (by omega) (by omega) (by omega) ?_
    refine g_ist4_3 dX10_of_14 (by decide) rfl ?_
    refine g_iload_n dX10_of_15 rfl ?_
    by_cases h5 : u < 5
    · obtain rfl | rfl | rfl | rfl | rfl : u = 0 ∨ u = 1 ∨ u = 2 ∨ u = 3 ∨ u = 4 := by omega
      · skip
        refine g_tswI (off := 36) 52 dX10_of_16 (by decide) (by decide) (by decide) (by decide) ?_
        refine g_aload_n dX10_of_52 rfl ?_
        refine g_getr (j := 0) dX10_of_53 gc10 rfl (by decide) rfl (by decide) fl_M_9 ?_
        refine g_bipush (nI 11) dX10_of_56 kb_11 ?_
        refine g_iload_n dX10_of_58 rfl ?_
        first | refine g_iadd_n dX10_of_59 ?_ | refine g_iadd dX10_of_59 ?_
        refine g_iald_n dX10_of_60 (by first | rfl | assumption) (by first | decide | assumption) (by omega) (by omega) ?_
        try simp (disch := omega) only [hM.rk, hM.hN, hM.nr]
        refine g_ireturn dX10_of_61 rfl (by first | rfl | exact nar_bI _) ?_
        exact h2
      · skip
        refine g_tswI (off := 46) 62 dX10_of_16 (by decide) (by decide) (by decide) (by decide) ?_
        refine g_aload_n dX10_of_62 rfl ?_
        refine g_getr (j := 0) dX10_of_63 gc10 rfl (by decide) rfl (by decide) fl_M_9 ?_
        refine g_iconst (nI 3) dX10_of_66 ki_3 ?_
        refine g_iload_n dX10_of_67 rfl ?_
        first | refine g_iadd_n dX10_of_68 ?_ | refine g_iadd dX10_of_68 ?_
        refine g_iald_n dX10_of_69 (by first | rfl | assumption) (by first | decide | assumption) (by omega) (by omega) ?_
        try simp (disch := omega) only [hM.rk, hM.hN, hM.nr]
        refine g_ireturn dX10_of_70 rfl (by first | rfl | exact nar_bI _) ?_
        exact h2
      · skip
        refine g_tswI (off := 55) 71 dX10_of_16 (by decide) (by decide) (by decide) (by decide) ?_
        refine g_aload_n dX10_of_71 rfl ?_
        refine g_iload_n dX10_of_72 rfl ?_
        refine g_call1 dX10_of_73 clM_burden ml_M_122 gc10 rfl rfl (by decide) (Nat.le_of_ble_eq_true rfl) ?_
        refine SM_burden hM hC hp ?_
        refine g_ireturn dX10_of_76 rfl (by first | rfl | exact nar_bI _) ?_
        exact h2
      · skip
        refine g_tswI (off := 61) 77 dX10_of_16 (by decide) (by decide) (by decide) (by decide) ?_
        refine g_aload_n dX10_of_77 rfl ?_
        refine g_iload_n dX10_of_78 rfl ?_
        refine g_call1 dX10_of_79 clM_heldBy ml_M_125 gc10 rfl rfl (by decide) (Nat.le_of_ble_eq_true rfl) ?_
        refine SM_heldBy hM (by omega) ?_
        refine g_ireturn dX10_of_82 rfl (by first | rfl | exact nar_bI _) ?_
        exact h2
      · skip
        refine g_tswI (off := 67) 83 dX10_of_16 (by decide) (by decide) (by decide) (by decide) ?_
        refine g_aload_n dX10_of_83 rfl ?_
        refine g_getr (j := 0) dX10_of_84 gc10 rfl (by decide) rfl (by decide) fl_M_9 ?_
        refine g_bipush (nI 51) dX10_of_87 kb_51 ?_
        refine g_iload_n dX10_of_89 rfl ?_
        first | refine g_iadd_n dX10_of_90 ?_ | refine g_iadd dX10_of_90 ?_
        refine g_iald_n dX10_of_91 (by first | rfl | assumption) (by first | decide | assumption) (by omega) (by omega) ?_
        try simp (disch := omega) only [hM.rk, hM.hN, hM.nr]
        refine g_ireturn dX10_of_92 rfl (by first | rfl | exact nar_bI _) ?_
        exact h2
    · skip
      refine g_tswO 93 dX10_of_16 (by rw [nI_toInt (by omega)]; omega) (by decide) ?_
      refine g_iload_n dX10_of_93 rfl ?_
      refine g_i2l dX10_of_94 ?_
      refine g_ldc2w (10) dX10_of_95 kl_M_128 ?_
      refine g_ldc2w (39) dX10_of_98 kl_M_130 ?_
      refine g_calls3 dX10_of_101 clM_in ml_M_68 (Nat.le_of_ble_eq_true rfl) ?_
      refine SM_in _ _ _ ?_
      rw [show inJ (nI u).toInt64 10 39 = decide (10 ≤ u ∧ u ≤ 39) from ?_]
      rotate_left
      · unfold inJ
        rw [Int32.toInt_toInt64, nI_toInt (by omega)]
        have e1 : (10 : Int64).toInt = 10 := by decide
        have e2 : (39 : Int64).toInt = 39 := by decide
        rw [e1, e2]
        congr 1
        exact propext ⟨fun q => by omega, fun q => by omega⟩
      unfold vo at h2
      rw [if_neg (by omega), if_neg (by omega), if_neg (by omega), if_neg (by omega), if_neg (by omega)] at h2
      refine g_if_eq_b 114 dX10_of_104 (by decide) (fun c104 => ?_) (fun c104 => ?_)
      · have c104 := of_decide_eq_false c104
        rw [if_neg (by omega), if_neg (by omega), if_neg (by omega)] at h2
        refine g_iconst ((-1)) dX10_of_114 ki_m1 ?_
        refine g_ireturn dX10_of_115 rfl (by first | rfl | exact nar_bI _) ?_
        exact h2
      · have c104 := of_decide_eq_true c104
        refine g_iload_n dX10_of_107 rfl ?_
        refine g_calls1 dX10_of_108 clM_isKind ml_M_117 (Nat.le_of_ble_eq_true rfl) ?_
        refine SM_isKind _ ?_
        rw [inR_nI (by omega)]
        refine g_if_ne_b 116 dX10_of_111 (by decide) (fun c111 => ?_) (fun c111 => ?_)
        · have c111 := of_decide_eq_true c111
          refine g_iload_n dX10_of_116 rfl ?_
          refine g_bipush (nI 20) dX10_of_117 kb_20 ?_
          refine g_icmp_ge_n 131 dX10_of_119 (by decide) (by omega) (by omega) (fun c119 => ?_) (fun c119 => ?_)
          · refine g_iload_n dX10_of_131 rfl ?_
            refine g_bipush (nI 30) dX10_of_132 kb_30 ?_
            refine g_icmp_ge_n 146 dX10_of_134 (by decide) (by omega) (by omega) (fun c134 => ?_) (fun c134 => ?_)
            · rw [if_neg (by omega), if_neg (by omega), if_pos (by omega), show u - 30 = u % 10 by omega] at h2
              refine g_aload_n dX10_of_146 rfl ?_
              refine g_iload_n dX10_of_147 rfl ?_
              refine g_iload_n dX10_of_148 rfl ?_
              refine g_call2 dX10_of_149 clM_loadOf ml_M_132 gc10 rfl rfl (by decide) (Nat.le_of_ble_eq_true rfl) ?_
              refine SM_loadOf hM hp (by omega) ?_
              refine g_ireturn dX10_of_152 rfl (by first | rfl | exact nar_bI _) ?_
              exact h2
            · rw [if_neg (by omega), if_pos (by omega), show u - 20 = u % 10 by omega] at h2
              refine g_aload_n dX10_of_137 rfl ?_
              refine g_iload_n dX10_of_138 rfl ?_
              refine g_iload_n dX10_of_139 rfl ?_
              refine g_call2 dX10_of_140 clM_head ml_M_89 gc10 rfl rfl (by decide) (Nat.le_of_ble_eq_true rfl) ?_
              refine SM_head hM hp (by omega) ?_
              refine g_goto 152 dX10_of_143 (by decide) ?_
              refine g_ireturn dX10_of_152 rfl (by first | rfl | exact nar_bI _) ?_
              exact h2
          · rw [if_pos (by omega), show u - 10 = u % 10 by omega] at h2
            refine g_aload_n dX10_of_122 rfl ?_
            refine g_iload_n dX10_of_123 rfl ?_
            refine g_iload_n dX10_of_124 rfl ?_
            refine g_call2 dX10_of_125 clM_past ml_M_82 gc10 rfl rfl (by decide) (Nat.le_of_ble_eq_true rfl) ?_
            refine SM_past hM hp (by omega) ?_
            refine g_goto 152 dX10_of_128 (by decide) ?_
            refine g_ireturn dX10_of_152 rfl (by first | rfl | exact nar_bI _) ?_
            exact h2
        · have c111 := of_decide_eq_false c111
          rw [if_neg (by omega), if_neg (by omega), if_neg (by omega)] at h2
          refine g_iconst ((-1)) dX10_of_114 ki_m1 ?_
          refine g_ireturn dX10_of_115 rfl (by first | rfl | exact nar_bI _) ?_
          exact h2
  · rw [if_neg h40] at h2
    have hx : w.toInt < 0 ∨ 40 ≤ w.toInt := by
      unfold inR at h40
      simp only [decide_eq_true_eq] at h40
      omega
    refine g_iload_n dX10_of_10 rfl ?_
    refine g_bipush (nI 10) dX10_of_11 kb_10 ?_
    refine g_irem dX10_of_13 (nI_ne0 (by omega) (by omega)) ?_
    refine g_ist4_3 dX10_of_14 (by decide) rfl ?_
    refine g_iload_n dX10_of_15 rfl ?_
    refine g_tswO 93 dX10_of_16 (by omega) (by decide) ?_
    refine g_iload_n dX10_of_93 rfl ?_
    refine g_i2l dX10_of_94 ?_
    refine g_ldc2w (10) dX10_of_95 kl_M_128 ?_
    refine g_ldc2w (39) dX10_of_98 kl_M_130 ?_
    refine g_calls3 dX10_of_101 clM_in ml_M_68 (Nat.le_of_ble_eq_true rfl) ?_
    refine SM_in _ _ _ ?_
    rw [show inJ w.toInt64 10 39 = false from ?_]
    rotate_left
    · unfold inJ
      rw [Int32.toInt_toInt64]
      have e1 : (10 : Int64).toInt = 10 := by decide
      have e2 : (39 : Int64).toInt = 39 := by decide
      rw [e1, e2]
      exact decide_eq_false (by omega)
    refine g_if_eq_ff 114 dX10_of_104 (by decide) ?_
    refine g_iconst ((-1)) dX10_of_114 ki_m1 ?_
    refine g_ireturn dX10_of_115 rfl (by first | rfl | exact nar_bI _) ?_
    exact h2
theorem both_of (x w : Int32) : Both mF_of mM_of [.int x, .int w] := both_book (f_of x w) (fun M S Q => SF_of x w M S Q) (fun M S Q => SM_of x w M S Q) (fun S hW hH => hH)
/-! duty, dutyOf, stands, may, dislike, hold, open -/
theorem MKaddD {w w' : Nat → Int32} {S : BS} (hM : MK w S) {dd kk : Nat} (hdd : dd ≤ 365) (hkk : kk < 4) (hn : S 1 0 0 < 24) (h2 : w' 2 = nI (S 1 0 0 + 1)) (h10 : w' (251 + S 1 0 0) = nI dd) (h11 : w' (275 + S 1 0 0) = nI kk) (h12 : w' (299 + S 1 0 0) = -1) (h13 : ∀ p, p < 8 → w' (323 + 24 * p + S 1 0 0) = nI 0)
    (hk : ∀ j, j ≠ 2 → j ≠ 251 + S 1 0 0 → j ≠ 275 + S 1 0 0 → j ≠ 299 + S 1 0 0 → (∀ p, p < 8 → j ≠ 323 + 24 * p + S 1 0 0) → w' j = w j) : MK w' (addD S dd kk) := by
  have hnp := hM.wf.np
  have hnr := fun p (hp : p < S 0 0 0) => hM.wf.nr (p := p) (by omega)
  have o : ∀ {a b c : Nat}, a ≠ 1 → a ≠ 10 → a ≠ 11 → a ≠ 12 → addD S dd kk a b c = S a b c := fun h1 h2 h3 h4 => addD_oth h1 h2 h3 h4
  have o0 : addD S dd kk 0 0 0 = S 0 0 0 := o (by decide) (by decide) (by decide) (by decide)
  have ky : ∀ j, j < 251 → j ≠ 2 → w' j = w j := fun j h1 h2 => hk j h2 (by omega) (by omega) (by omega) (fun p hp => by omega)
  refine ⟨addD_wf hM.wf hdd hkk hn, ?_, ?_, h2, fun p hp => ?_, fun p k hp hk4 => ?_, fun p q hp hq => ?_, fun e he => ?_, fun p e hp he => ?_, MX.pos (by rw [addD_1]; omega)⟩
  · rw [o0, ky 0 (by omega) (by omega)]; exact hM.np
  · rw [o (a := 2) (by decide) (by decide) (by decide) (by decide), ky 1 (by omega) (by omega)]; exact hM.yr
  · rw [o0] at hp
    rw [o (a := 4) (by decide) (by decide) (by decide) (by decide), o (a := 3) (by decide) (by decide) (by decide) (by decide), o (a := 6) (by decide) (by decide) (by decide) (by decide), ky _ (by omega) (by omega), ky _ (by omega) (by omega), ky _ (by omega) (by omega)]
    exact ⟨hM.hN hp, hM.rk hp, hM.nr hp⟩
  · rw [o0] at hp
    rw [o (by decide) (by decide) (by decide) (by decide), ky _ (by omega) (by omega)]; exact hM.ps hp hk4
  · rw [o0] at hp
    rw [o (a := 6) (by decide) (by decide) (by decide) (by decide)] at hq
    have := hnr p hp
    rw [o (a := 7) (by decide) (by decide) (by decide) (by decide), o (a := 8) (by decide) (by decide) (by decide) (by decide), o (a := 9) (by decide) (by decide) (by decide) (by decide), ky _ (by omega) (by omega), ky _ (by omega) (by omega), ky _ (by omega) (by omega)]
    exact ⟨hM.rs hp hq, hM.ra hp hq, hM.rb hp hq⟩
  · rw [addD_1] at he
    by_cases e2 : e = S 1 0 0
    · subst e2; rw [addD_10, addD_11, addD_12]; exact ⟨h10, h11, h12⟩
    · rw [addD_old (a := 10) (by decide) e2, addD_old (a := 11) (by decide) e2, addD_old (a := 12) (by decide) e2, hk _ (by omega) (by omega) (by omega) (by omega) (fun p hp => by omega), hk _ (by omega) (by omega) (by omega) (by omega) (fun p hp => by omega), hk _ (by omega) (by omega) (by omega) (by omega) (fun p hp => by omega)]
      exact ⟨hM.dy (by omega), hM.kd (by omega), hM.ho (by omega)⟩
  · rw [o0] at hp
    rw [addD_1] at he
    rw [o (a := 13) (by decide) (by decide) (by decide) (by decide)]
    by_cases e2 : e = S 1 0 0
    · subst e2
      rw [hM.wf.dl0 (Nat.le_refl _)]; exact h13 p (by omega)
    · rw [hk _ (by omega) (by omega) (by omega) (by omega) (fun q hq => by omega)]; exact hM.dl hp (by omega)
theorem SM_adds {d : Nat} {M : Mm} {S : BS} {Q : Po} (hM : MK (M 58) S) {dd kk : Nat} (hdd : dd ≤ 365) (hkk : kk < 4) (hn : S 1 0 0 < 24) (h : ∀ M', EqO [58] M M' → MK (M' 58) (addD S dd kk) → Q M' none) : Call (d + 1) mM_adds [.ref 57, .int (nI dd), .int (nI kk)] M Q := by
  have hw := hM.wf.nd
  refine Call_of (m := mM_adds) [some (.ref 57), some (.int (nI dd)), some (.int (nI kk)), none, none] rfl (fun G => Nat.le_of_ble_eq_true rfl) (fun G => rfl) ?_
  refine g_aload_n dX10_adds_0 rfl ?_
  refine g_getr (j := 0) dX10_adds_1 gc10 rfl (by decide) rfl (by decide) fl_M_9 ?_
  refine g_iconst (nI 2) dX10_adds_4 ki_2 ?_
  refine g_iald_n dX10_adds_5 (by first | rfl | assumption) (by first | decide | assumption) (by omega) (by omega) ?_
  try simp (disch := omega) only [hM.nd]
  refine g_ist5_3 dX10_adds_6 (by decide) rfl ?_
  refine g_aload_n dX10_adds_7 rfl ?_
  refine g_getr (j := 0) dX10_adds_8 gc10 rfl (by decide) rfl (by decide) fl_M_9 ?_
  refine g_sipush (nI 251) dX10_adds_11 ks_251 ?_
  refine g_iload_n dX10_adds_14 rfl ?_
  first | refine g_iadd_n dX10_adds_15 ?_ | refine g_iadd dX10_adds_15 ?_
  refine g_iload_n dX10_adds_16 rfl ?_
  refine g_iast_n dX10_adds_17 (by first | rfl | assumption) (by first | decide | assumption) (by omega) (by omega) ?_
  refine g_aload_n dX10_adds_18 rfl ?_
  refine g_getr (j := 0) dX10_adds_19 gc10 rfl (by decide) rfl (by decide) fl_M_9 ?_
  refine g_sipush (nI 275) dX10_adds_22 ks_275 ?_
  refine g_iload_n dX10_adds_25 rfl ?_
  first | refine g_iadd_n dX10_adds_26 ?_ | refine g_iadd dX10_adds_26 ?_
  refine g_iload_n dX10_adds_27 rfl ?_
  refine g_iast_n dX10_adds_28 (by first | rfl | assumption) (by first | decide | assumption) (by omega) (by omega) ?_
  refine g_aload_n dX10_adds_29 rfl ?_
  refine g_getr (j := 0) dX10_adds_30 gc10 rfl (by decide) rfl (by decide) fl_M_9 ?_
  refine g_sipush (nI 299) dX10_adds_33 ks_299 ?_
  refine g_iload_n dX10_adds_36 rfl ?_
  first | refine g_iadd_n dX10_adds_37 ?_ | refine g_iadd dX10_adds_37 ?_
  refine g_iconst ((-1)) dX10_adds_38 ki_m1 ?_
  refine g_iast_n dX10_adds_39 (by first | rfl | assumption) (by first | decide | assumption) (by omega) (by omega) ?_
  refine g_iconst (nI 0) dX10_adds_40 ki_0 ?_
  refine g_ist5_4 dX10_adds_41 (by decide) rfl ?_
  generalize hM0 : mset (mset (mset M 58 (251 + S 1 0 0) (nI dd)) 58 (275 + S 1 0 0) (nI kk)) 58 (299 + S 1 0 0) (-1) = M0
  have g0 : ∀ j, j ≠ 251 + S 1 0 0 → j ≠ 275 + S 1 0 0 → j ≠ 299 + S 1 0 0 → M0 58 j = M 58 j := fun j h1 h2 h3 => by
    rw [← hM0, mset_off (by omega), mset_off (by omega), mset_off (by omega)]
  have g1 : M0 58 (251 + S 1 0 0) = nI dd := by rw [← hM0, mset_off (by omega), mset_off (by omega), mset_at]
  have g2 : M0 58 (275 + S 1 0 0) = nI kk := by rw [← hM0, mset_off (by omega), mset_at]
  have g3 : M0 58 (299 + S 1 0 0) = -1 := by rw [← hM0, mset_at]
  have hE0 : EqO [58] M M0 := by rw [← hM0]; exact (EqO.set (by decide)).tr ((EqO.set (by decide)).tr (EqO.set (by decide)))
  refine loop_up (P := fun i => ∀ M', EqO [58] M M' → (∀ j, (∀ p, p < 8 → j ≠ 323 + 24 * p + S 1 0 0) → M' 58 j = M0 58 j) → (∀ p, p < i → M' 58 (323 + 24 * p + S 1 0 0) = nI 0) → Go mM_adds (d + 1) Q 43 [some (.ref 57), some (.int (nI dd)), some (.int (nI kk)), some (.int (nI (S 1 0 0))), some (.int (nI i))] [] M') 8 ?_ 0 (Nat.zero_le _) M0 hE0 (fun _ _ => rfl) (fun p hp => absurd hp (by omega))
  intro i hi ih M' hE k1 k2
  have e2 : M' 58 2 = nI (S 1 0 0) := by rw [k1 2 (fun p hp => by omega), g0 2 (by omega) (by omega) (by omega)]; exact hM.nd
  refine g_iload dX10_adds_43 rfl ?_
  refine g_bipush (nI 8) dX10_adds_45 kb_8 ?_
  refine g_icmp_ge_n 73 dX10_adds_47 (by decide) (by omega) (by omega) (fun c47 => ?_) (fun c47 => ?_)
  · refine g_aload_n dX10_adds_73 rfl ?_
    refine g_getr (j := 0) dX10_adds_74 gc10 rfl (by decide) rfl (by decide) fl_M_9 ?_
    refine g_iconst (nI 2) dX10_adds_77 ki_2 ?_
    refine g_dup2 dX10_adds_78 rfl rfl ?_
    refine g_iald_n dX10_adds_79 (by first | rfl | assumption) (by first | decide | assumption) (by omega) (by omega) ?_
    try simp (disch := omega) only [mset_off, e2]
    refine g_iconst (nI 1) dX10_adds_80 ki_1 ?_
    first | refine g_iadd_n dX10_adds_81 ?_ | refine g_iadd dX10_adds_81 ?_
    refine g_iast_n dX10_adds_82 (by first | rfl | assumption) (by first | decide | assumption) (by omega) (by omega) ?_
    refine g_return dX10_adds_83 rfl ?_
    refine h (mset M' 58 2 (nI (S 1 0 0 + 1))) (hE.tr (EqO.set (by decide))) (MKaddD hM hdd hkk hn ?_ ?_ ?_ ?_ ?_ ?_)
    · rw [mset_at]
    · rw [mset_off (by omega), k1 _ (fun p hp => by omega)]; exact g1
    · rw [mset_off (by omega), k1 _ (fun p hp => by omega)]; exact g2
    · rw [mset_off (by omega), k1 _ (fun p hp => by omega)]; exact g3
    · intro p hp; rw [mset_off (by omega)]; exact k2 p (by omega)
    · intro j h2 h10 h11 h12 h13
      rw [mset_off (by omega), k1 j h13, g0 j h10 h11 h12]
  · refine g_aload_n dX10_adds_50 rfl ?_
    refine g_getr (j := 0) dX10_adds_51 gc10 rfl (by decide) rfl (by decide) fl_M_9 ?_
    refine g_sipush (nI 323) dX10_adds_54 ks_323 ?_
    refine g_bipush (nI 24) dX10_adds_57 kb_24 ?_
    refine g_iload dX10_adds_59 rfl ?_
    first | refine g_imul_n dX10_adds_61 ?_ | refine g_imul dX10_adds_61 ?_
    first | refine g_iadd_n dX10_adds_62 ?_ | refine g_iadd dX10_adds_62 ?_
    refine g_iload_n dX10_adds_63 rfl ?_
    first | refine g_iadd_n dX10_adds_64 ?_ | refine g_iadd dX10_adds_64 ?_
    refine g_iconst (nI 0) dX10_adds_65 ki_0 ?_
    refine g_iast_n dX10_adds_66 (by first | rfl | assumption) (by first | decide | assumption) (by omega) (by omega) ?_
    first | refine g_incn5_4 dX10_adds_67 ki_1 (by decide) rfl ?_ | refine g_incg5_4 (nI 1) dX10_adds_67 ki_1 (by decide) rfl ?_
    refine g_goto 43 dX10_adds_70 (by decide) ?_
    refine ih (by omega) _ (hE.tr (EqO.set (by decide))) (fun j hj => ?_) (fun p hp => ?_)
    · have := hj i (by omega)
      rw [mset_off (by omega)]; exact k1 j hj
    · by_cases e : p = i
      · subst e; rw [mset_at]
      · rw [mset_off (by omega)]; exact k2 p (by omega)
def f_duty (x k : Int32) (S : BS) : Int32 × BS := if inR k 4 = true then (if inR x 366 = true then (if S 1 0 0 = 24 then (-4, S) else (nI (S 1 0 0), addD S (v2n x) (v2n k))) else (-2, S)) else (-1, S)
theorem inR_le {x : Int32} {n : Nat} (hn : n < 2 ^ 31) (h1 : ¬ x < 0) (h2 : x ≤ nI n) : inR x (n + 1) = true := by
  rw [lt0_toInt] at h1
  rw [toInt_lenI hn] at h2
  exact decide_eq_true (by omega)
theorem inR_nle {x : Int32} {n : Nat} (hn : n < 2 ^ 31) (h2 : ¬ x ≤ nI n) : inR x (n + 1) = false := by
  rw [toInt_lenI hn] at h2
  exact decide_eq_false (by omega)
theorem SF_duty (x k : Int32) (M : Mm) (S : BS) (Q : Po) (hB : BK M S) (hH : HM S) (h : ∀ M', FrC M M' → BK M' (f_duty x k S).2 → Q M' (some (.int (f_duty x k S).1))) : Call 60 mF_duty [.ref 0, .int x, .int k] M Q := by
  have hw := hB.wf.nd
  refine Call_of (m := mF_duty) [some (.ref 0), some (.int x), some (.int k)] rfl (fun G => Nat.le_of_ble_eq_true rfl) (fun G => rfl) ?_
  refine g_iload_n dX9_duty_0 rfl ?_
  refine g_calls1 dX9_duty_1 clF_isKind ml_F_106 (Nat.le_of_ble_eq_true rfl) ?_
  refine SF_isKind k ?_
  refine g_if_ne_b 9 dX9_duty_4 (by decide) (fun c4 => ?_) (fun c4 => ?_)
  · obtain ⟨j, hj, rfl⟩ := inR_true c4
    rw [f_duty, if_pos c4, v2n_nI (show j < 2 ^ 31 by omega)] at h
    refine g_iload_n dX9_duty_9 rfl ?_
    refine g_if_lt 20 dX9_duty_10 (by decide) (fun c10 => ?_) (fun c10 => ?_)
    · rw [if_neg (by rw [inR_f1 c10]; decide)] at h
      refine g_bipush ((-2)) dX9_duty_20 kb_m2 ?_
      refine g_ireturn dX9_duty_22 rfl (by first | rfl | exact nar_bI _) ?_
      exact h M FrC.rf hB
    · refine g_iload_n dX9_duty_13 rfl ?_
      refine g_sipush (nI 365) dX9_duty_14 ks_365 ?_
      refine g_icmp_le 23 dX9_duty_17 (by decide) (fun c17 => ?_) (fun c17 => ?_)
      · have e := inR_le (n := 365) (by omega) c10 c17
        obtain ⟨u, hu, rfl⟩ := inR_true e
        rw [if_pos e, v2n_nI (show u < 2 ^ 31 by omega)] at h
        refine g_aload_n dX9_duty_23 rfl ?_
        refine g_getr (j := 0) dX9_duty_24 gc9 rfl (by decide) rfl (by decide) fl_F_13 ?_
        refine g_geti (j := 1) dX9_duty_27 gc0 rfl (by decide) rfl (by decide) fl_F_164 ?_
        try simp (disch := omega) only [hB.nd]
        refine g_bipush (nI 24) dX9_duty_30 kb_24 ?_
        refine g_icmp_lt_n 38 dX9_duty_32 (by decide) (by omega) (by omega) (fun c32 => ?_) (fun c32 => ?_)
        · rw [if_neg (by omega)] at h
          refine g_aload_n dX9_duty_38 rfl ?_
          refine g_getr (j := 0) dX9_duty_39 gc9 rfl (by decide) rfl (by decide) fl_F_13 ?_
          refine g_iload_n dX9_duty_42 rfl ?_
          refine g_iload_n dX9_duty_43 rfl ?_
          refine g_call2 dX9_duty_44 clB_addDuty ml_F_167 gc0 rfl rfl (by decide) (Nat.le_of_ble_eq_true rfl) ?_
          refine SB_addDuty hB (by omega) hj c32 (fun M' hE hB' => ?_)
          refine g_ireturn dX9_duty_47 rfl (by first | rfl | exact nar_bI _) ?_
          exact h M' (FrC.of hE (by decide)) hB'
        · rw [if_pos (by omega)] at h
          refine g_bipush ((-4)) dX9_duty_35 kb_m4 ?_
          refine g_ireturn dX9_duty_37 rfl (by first | rfl | exact nar_bI _) ?_
          exact h M FrC.rf hB
      · rw [if_neg (by rw [inR_nle (n := 365) (by omega) c17]; decide)] at h
        refine g_bipush ((-2)) dX9_duty_20 kb_m2 ?_
        refine g_ireturn dX9_duty_22 rfl (by first | rfl | exact nar_bI _) ?_
        exact h M FrC.rf hB
  · rw [f_duty, if_neg (by rw [c4]; decide)] at h
    refine g_iconst ((-1)) dX9_duty_7 ki_m1 ?_
    refine g_ireturn dX9_duty_8 rfl (by first | rfl | exact nar_bI _) ?_
    exact h M FrC.rf hB
theorem SM_duty (x k : Int32) (M : Mm) (S : BS) (Q : Po) (hM : MK (M 58) S) (hC : MC M) (hH : HM S) (h : ∀ M', FrM M M' → MK (M' 58) (f_duty x k S).2 → Q M' (some (.int (f_duty x k S).1))) : Call 60 mM_duty [.ref 57, .int x, .int k] M Q := by
  have hw := hM.wf.nd
  refine Call_of (m := mM_duty) [some (.ref 57), some (.int x), some (.int k)] rfl (fun G => Nat.le_of_ble_eq_true rfl) (fun G => rfl) ?_
  refine g_iload_n dX10_duty_0 rfl ?_
  refine g_calls1 dX10_duty_1 clM_isKind ml_M_117 (Nat.le_of_ble_eq_true rfl) ?_
  refine SM_isKind k ?_
  refine g_if_ne_b 9 dX10_duty_4 (by decide) (fun c4 => ?_) (fun c4 => ?_)
  · obtain ⟨j, hj, rfl⟩ := inR_true c4
    rw [f_duty, if_pos c4, v2n_nI (show j < 2 ^ 31 by omega)] at h
    refine g_iload_n dX10_duty_9 rfl ?_
    refine g_i2l dX10_duty_10 ?_
    refine g_lconst (0) dX10_duty_11 (by decide) ?_
    refine g_ldc2w (365) dX10_duty_12 kl_M_135 ?_
    refine g_calls3 dX10_duty_15 clM_in ml_M_68 (Nat.le_of_ble_eq_true rfl) ?_
    refine SM_in _ _ _ ?_
    rw [inJ_L (n := 366) (by decide)]
    refine g_if_ne_b 24 dX10_duty_18 (by decide) (fun c18 => ?_) (fun c18 => ?_)
    · obtain ⟨u, hu, rfl⟩ := inR_true c18
      rw [if_pos c18, v2n_nI (show u < 2 ^ 31 by omega)] at h
      refine g_aload_n dX10_duty_24 rfl ?_
      refine g_getr (j := 0) dX10_duty_25 gc10 rfl (by decide) rfl (by decide) fl_M_9 ?_
      refine g_iconst (nI 2) dX10_duty_28 ki_2 ?_
      refine g_iald_n dX10_duty_29 (by first | rfl | assumption) (by first | decide | assumption) (by omega) (by omega) ?_
      try simp (disch := omega) only [hM.nd]
      refine g_bipush (nI 24) dX10_duty_30 kb_24 ?_
      refine g_icmp_ne_n 38 dX10_duty_32 (by decide) (by omega) (by omega) (fun c32 => ?_) (fun c32 => ?_)
      · rw [if_neg c32] at h
        refine g_aload_n dX10_duty_38 rfl ?_
        refine g_iload_n dX10_duty_39 rfl ?_
        refine g_iload_n dX10_duty_40 rfl ?_
        refine g_call2 dX10_duty_41 clM_adds ml_M_137 gc10 rfl rfl (by decide) (Nat.le_of_ble_eq_true rfl) ?_
        refine SM_adds hM (by omega) hj (by omega) (fun M' hE hM' => ?_)
        have e1 : addD S u j 1 0 0 = S 1 0 0 + 1 := rfl
        refine g_aload_n dX10_duty_44 rfl ?_
        refine g_getr (j := 0) dX10_duty_45 gc10 rfl (by decide) rfl (by decide) fl_M_9 ?_
        refine g_iconst (nI 2) dX10_duty_48 ki_2 ?_
        refine g_iald_n dX10_duty_49 (by first | rfl | assumption) (by first | decide | assumption) (by omega) (by omega) ?_
        try simp (disch := omega) only [hM'.nd, e1]
        refine g_iconst (nI 1) dX10_duty_50 ki_1 ?_
        first | refine g_isub_n dX10_duty_51 (by omega) ?_ | refine g_isub dX10_duty_51 ?_
        refine g_ireturn dX10_duty_52 rfl (by first | rfl | exact nar_bI _) ?_
        rw [Nat.add_sub_cancel]
        exact h M' (FrM.of hE (by decide)) hM'
      · rw [if_pos c32] at h
        refine g_bipush ((-4)) dX10_duty_35 kb_m4 ?_
        refine g_ireturn dX10_duty_37 rfl (by first | rfl | exact nar_bI _) ?_
        exact h M FrM.rf hM
    · rw [if_neg (by rw [c18]; decide)] at h
      refine g_bipush ((-2)) dX10_duty_21 kb_m2 ?_
      refine g_ireturn dX10_duty_23 rfl (by first | rfl | exact nar_bI _) ?_
      exact h M FrM.rf hM
  · rw [f_duty, if_neg (by rw [c4]; decide)] at h
    refine g_iconst ((-1)) dX10_duty_7 ki_m1 ?_
    refine g_ireturn dX10_duty_8 rfl (by first | rfl | exact nar_bI _) ?_
    exact h M FrM.rf hM
theorem addD_HO {S : BS} (hH : HM S) {dd kk : Nat} : HM (addD S dd kk) := by
  intro d hd h8
  rw [addD_1] at hd
  by_cases e : d = S 1 0 0
  · subst e; rw [addD_12] at h8; omega
  · rw [addD_old (a := 12) (by decide) e] at h8 ⊢
    rw [may_cong (addD_oth (by decide) (by decide) (by decide) (by decide)) (addD_oth (by decide) (by decide) (by decide) (by decide)) (fun r => addD_oth (by decide) (by decide) (by decide) (by decide)) (fun r => addD_oth (by decide) (by decide) (by decide) (by decide)) (fun r => addD_oth (by decide) (by decide) (by decide) (by decide)) (addD_old (by decide) e) (addD_old (by decide) e)]
    exact hH d (by omega) h8
theorem both_duty (x k : Int32) : Both mF_duty mM_duty [.int x, .int k] := both_book (f_duty x k) (fun M S Q => SF_duty x k M S Q) (fun M S Q => SM_duty x k M S Q) (fun S hW hH => by
  unfold f_duty
  split
  · split
    · split
      · exact hH
      · exact addD_HO hH
    · exact hH
  · exact hH)
theorem SF_orNobody {d : Nat} {M : Mm} {Q : Po} {q : Nat} (hq : q ≤ 8) (h : Q M (some (.int (tH q)))) : Call (d + 1) mF_orNobody [.int (hv q)] M Q := by
  unfold tH at h
  refine Call_of (m := mF_orNobody) [some (.int (hv q))] rfl (fun G => Nat.le_of_ble_eq_true rfl) (fun G => rfl) ?_
  refine g_iload_n dX9_orNobody_0 rfl ?_
  refine g_iconst ((-1)) dX9_orNobody_1 ki_m1 ?_
  refine g_icmp_ne 10 dX9_orNobody_2 (by decide) (fun c2 => ?_) (fun c2 => ?_)
  · rw [hv_open _ hq] at c2
    rw [if_neg c2] at h
    refine g_iload_n dX9_orNobody_10 rfl ?_
    refine g_ireturn dX9_orNobody_11 rfl (by first | rfl | exact nar_bI _) ?_
    rw [show hv q = nI q by unfold hv; rw [if_neg c2]]; exact h
  · rw [hv_open _ hq] at c2
    rw [if_pos c2] at h
    refine g_bipush ((-5)) dX9_orNobody_5 kb_m5 ?_
    refine g_goto 11 dX9_orNobody_7 (by decide) ?_
    refine g_ireturn dX9_orNobody_11 rfl (by first | rfl | exact nar_bI _) ?_
    exact h
theorem plN_ex (S : BS) {e : Nat} (he : e < S 1 0 0) : ∃ k, k < S 1 0 0 ∧ sd S k = e ∧ ∀ j, j < k → sd S j ≠ e := by
  obtain ⟨k, h1, h2⟩ := sdF_onto (fun d => S 10 d 0) (S 1 0 0) e he
  obtain ⟨j, h3, h4, h5⟩ := first_of (P := fun k => sd S k = e) k h2
  exact ⟨j, by omega, h4, h5⟩
noncomputable def plN (S : BS) (e : Nat) : Nat := if h : e < S 1 0 0 then Classical.choose (plN_ex S h) else 0
theorem plN_spec {S : BS} {e : Nat} (he : e < S 1 0 0) : plN S e < S 1 0 0 ∧ sd S (plN S e) = e ∧ ∀ j, j < plN S e → sd S j ≠ e := by
  unfold plN
  rw [dif_pos he]
  exact Classical.choose_spec (plN_ex S he)
noncomputable def dov (S : BS) (e u : Nat) : Int32 := if u = 0 then nI (S 10 e 0) else if u = 1 then nI (S 11 e 0) else if u = 2 then tH (S 12 e 0) else if u = 3 then nI (plN S e) else if u = 4 then nI (whoN S e) else -1
noncomputable def f_dutyOf (x w : Int32) (S : BS) : Int32 × BS := (if inR x (S 1 0 0) = true then (if inR w 5 = true then dov S (v2n x) (v2n w) else -1) else -1, S)
theorem SF_dutyOf (x w : Int32) (M : Mm) (S : BS) (Q : Po) (hB : BK M S) (hH : HM S) (h : ∀ M', FrC M M' → BK M' (f_dutyOf x w S).2 → Q M' (some (.int (f_dutyOf x w S).1))) : Call 60 mF_dutyOf [.ref 0, .int x, .int w] M Q := by
  have hw := hB.wf.nd
  have h2 := h M FrC.rf hB
  unfold f_dutyOf at h2
  dsimp only at h2
  clear h
  refine Call_of (m := mF_dutyOf) [some (.ref 0), some (.int x), some (.int w)] rfl (fun G => Nat.le_of_ble_eq_true rfl) (fun G => rfl) ?_
  refine g_aload_n dX9_dutyOf_0 rfl ?_
  refine g_getr (j := 0) dX9_dutyOf_1 gc9 rfl (by decide) rfl (by decide) fl_F_13 ?_
  refine g_iload_n dX9_dutyOf_4 rfl ?_
  refine g_call1 dX9_dutyOf_5 clB_isDuty ml_F_176 gc0 rfl rfl (by decide) (Nat.le_of_ble_eq_true rfl) ?_
  refine SB_isDuty hB x ?_
  refine g_if_ne_b 13 dX9_dutyOf_8 (by decide) (fun c8 => ?_) (fun c8 => ?_)
  · obtain ⟨e, he, rfl⟩ := inR_true c8
    rw [if_pos c8, v2n_nI (show e < 2 ^ 31 by omega)] at h2
    have hd := hB.wf.dk (d := e) (by omega)
    refine g_iload_n dX9_dutyOf_13 rfl ?_
    by_cases h5 : inR w 5 = true
    · obtain ⟨u, hu, rfl⟩ := inR_true h5
      rw [if_pos h5, v2n_nI (by omega)] at h2
      obtain rfl | rfl | rfl | rfl | rfl : u = 0 ∨ u = 1 ∨ u = 2 ∨ u = 3 ∨ u = 4 := by omega
      · skip
        refine g_tswI (off := 34) 48 dX9_dutyOf_14 (by decide) (by decide) (by decide) (by decide) ?_
        refine g_aload_n dX9_dutyOf_48 rfl ?_
        refine g_getr (j := 0) dX9_dutyOf_49 gc9 rfl (by decide) rfl (by decide) fl_F_13 ?_
        refine g_iload_n dX9_dutyOf_52 rfl ?_
        refine g_call1 dX9_dutyOf_53 clB_dayOf ml_F_179 gc0 rfl rfl (by decide) (Nat.le_of_ble_eq_true rfl) ?_
        refine SB_dayOf hB he ?_
        refine g_ireturn dX9_dutyOf_56 rfl (by first | rfl | exact nar_bI _) ?_
        exact h2
      · skip
        refine g_tswI (off := 43) 57 dX9_dutyOf_14 (by decide) (by decide) (by decide) (by decide) ?_
        refine g_aload_n dX9_dutyOf_57 rfl ?_
        refine g_getr (j := 0) dX9_dutyOf_58 gc9 rfl (by decide) rfl (by decide) fl_F_13 ?_
        refine g_iload_n dX9_dutyOf_61 rfl ?_
        refine g_call1 dX9_dutyOf_62 clB_kindOf ml_F_182 gc0 rfl rfl (by decide) (Nat.le_of_ble_eq_true rfl) ?_
        refine SB_kindOf hB he ?_
        refine g_ireturn dX9_dutyOf_65 rfl (by first | rfl | exact nar_bI _) ?_
        exact h2
      · skip
        refine g_tswI (off := 52) 66 dX9_dutyOf_14 (by decide) (by decide) (by decide) (by decide) ?_
        refine g_aload_n dX9_dutyOf_66 rfl ?_
        refine g_getr (j := 0) dX9_dutyOf_67 gc9 rfl (by decide) rfl (by decide) fl_F_13 ?_
        refine g_iload_n dX9_dutyOf_70 rfl ?_
        refine g_call1 dX9_dutyOf_71 clB_holderOf ml_F_185 gc0 rfl rfl (by decide) (Nat.le_of_ble_eq_true rfl) ?_
        refine SB_holderOf hB he ?_
        refine g_calls1 dX9_dutyOf_74 clF_orNobody ml_F_188 (Nat.le_of_ble_eq_true rfl) ?_
        refine SF_orNobody hd.2.2 ?_
        refine g_ireturn dX9_dutyOf_77 rfl (by first | rfl | exact nar_bI _) ?_
        exact h2
      · obtain ⟨k1, k2, k3⟩ := plN_spec he
        refine g_tswI (off := 64) 78 dX9_dutyOf_14 (by decide) (by decide) (by decide) (by decide) ?_
        refine g_aload_n dX9_dutyOf_78 rfl ?_
        refine g_getr (j := 0) dX9_dutyOf_79 gc9 rfl (by decide) rfl (by decide) fl_F_13 ?_
        refine g_iload_n dX9_dutyOf_82 rfl ?_
        refine g_call1 dX9_dutyOf_83 clB_placeOf ml_F_191 gc0 rfl rfl (by decide) (Nat.le_of_ble_eq_true rfl) ?_
        refine SB_placeOf hB k1 k2 k3 ?_
        refine g_ireturn dX9_dutyOf_86 rfl (by first | rfl | exact nar_bI _) ?_
        exact h2
      · skip
        refine g_tswI (off := 73) 87 dX9_dutyOf_14 (by decide) (by decide) (by decide) (by decide) ?_
        refine g_aload_n dX9_dutyOf_87 rfl ?_
        refine g_getr (j := 0) dX9_dutyOf_88 gc9 rfl (by decide) rfl (by decide) fl_F_13 ?_
        refine g_iload_n dX9_dutyOf_91 rfl ?_
        refine g_call1 dX9_dutyOf_92 clB_countWhoMayHold ml_F_194 gc0 rfl rfl (by decide) (Nat.le_of_ble_eq_true rfl) ?_
        refine SB_countWhoMayHold hB he ?_
        refine g_ireturn dX9_dutyOf_95 rfl (by first | rfl | exact nar_bI _) ?_
        exact h2
    · rw [if_neg h5] at h2
      have hx : w.toInt < 0 ∨ 4 < w.toInt := by
        unfold inR at h5
        simp only [decide_eq_true_eq] at h5
        omega
      refine g_tswO 96 dX9_dutyOf_14 hx (by decide) ?_
      refine g_iconst ((-1)) dX9_dutyOf_96 ki_m1 ?_
      refine g_ireturn dX9_dutyOf_97 rfl (by first | rfl | exact nar_bI _) ?_
      exact h2
  · rw [if_neg (by rw [c8]; decide)] at h2
    refine g_iconst ((-1)) dX9_dutyOf_11 ki_m1 ?_
    refine g_ireturn dX9_dutyOf_12 rfl (by first | rfl | exact nar_bI _) ?_
    exact h2
theorem SM_dutyOf (x w : Int32) (M : Mm) (S : BS) (Q : Po) (hM : MK (M 58) S) (hC : MC M) (hH : HM S) (h : ∀ M', FrM M M' → MK (M' 58) (f_dutyOf x w S).2 → Q M' (some (.int (f_dutyOf x w S).1))) : Call 60 mM_dutyOf [.ref 57, .int x, .int w] M Q := by
  have hw := hM.wf.nd
  have h2 := h M FrM.rf hM
  unfold f_dutyOf at h h2
  dsimp only at h h2
  refine Call_of (m := mM_dutyOf) [some (.ref 57), some (.int x), some (.int w)] rfl (fun G => Nat.le_of_ble_eq_true rfl) (fun G => rfl) ?_
  refine g_aload_n dX10_dutyOf_0 rfl ?_
  refine g_iload_n dX10_dutyOf_1 rfl ?_
  refine g_call1 dX10_dutyOf_2 clM_isDuty ml_M_141 gc10 rfl rfl (by decide) (Nat.le_of_ble_eq_true rfl) ?_
  refine SM_isDuty hM x ?_
  refine g_if_ne_b 10 dX10_dutyOf_5 (by decide) (fun c5 => ?_) (fun c5 => ?_)
  · obtain ⟨e, he, rfl⟩ := inR_true c5
    rw [if_pos c5, v2n_nI (show e < 2 ^ 31 by omega)] at h h2
    have hd := hM.wf.dk (d := e) (by omega)
    refine g_iload_n dX10_dutyOf_10 rfl ?_
    by_cases h5 : inR w 5 = true
    · obtain ⟨u, hu, rfl⟩ := inR_true h5
      rw [if_pos h5, v2n_nI (by omega)] at h h2
      obtain rfl | rfl | rfl | rfl | rfl : u = 0 ∨ u = 1 ∨ u = 2 ∨ u = 3 ∨ u = 4 := by omega
      · skip
        refine g_tswI (off := 33) 44 dX10_dutyOf_11 (by decide) (by decide) (by decide) (by decide) ?_
        refine g_aload_n dX10_dutyOf_44 rfl ?_
        refine g_getr (j := 0) dX10_dutyOf_45 gc10 rfl (by decide) rfl (by decide) fl_M_9 ?_
        refine g_sipush (nI 251) dX10_dutyOf_48 ks_251 ?_
        refine g_iload_n dX10_dutyOf_51 rfl ?_
        first | refine g_iadd_n dX10_dutyOf_52 ?_ | refine g_iadd dX10_dutyOf_52 ?_
        refine g_iald_n dX10_dutyOf_53 (by first | rfl | assumption) (by first | decide | assumption) (by omega) (by omega) ?_
        try simp (disch := omega) only [hM.dy, hM.kd]
        refine g_ireturn dX10_dutyOf_54 rfl (by first | rfl | exact nar_bI _) ?_
        exact h2
      · skip
        refine g_tswI (off := 44) 55 dX10_dutyOf_11 (by decide) (by decide) (by decide) (by decide) ?_
        refine g_aload_n dX10_dutyOf_55 rfl ?_
        refine g_getr (j := 0) dX10_dutyOf_56 gc10 rfl (by decide) rfl (by decide) fl_M_9 ?_
        refine g_sipush (nI 275) dX10_dutyOf_59 ks_275 ?_
        refine g_iload_n dX10_dutyOf_62 rfl ?_
        first | refine g_iadd_n dX10_dutyOf_63 ?_ | refine g_iadd dX10_dutyOf_63 ?_
        refine g_iald_n dX10_dutyOf_64 (by first | rfl | assumption) (by first | decide | assumption) (by omega) (by omega) ?_
        try simp (disch := omega) only [hM.dy, hM.kd]
        refine g_ireturn dX10_dutyOf_65 rfl (by first | rfl | exact nar_bI _) ?_
        exact h2
      · skip
        refine g_tswI (off := 55) 66 dX10_dutyOf_11 (by decide) (by decide) (by decide) (by decide) ?_
        refine g_aload_n dX10_dutyOf_66 rfl ?_
        refine g_iload_n dX10_dutyOf_67 rfl ?_
        refine g_call1 dX10_dutyOf_68 clM_holder ml_M_78 gc10 rfl rfl (by decide) (Nat.le_of_ble_eq_true rfl) ?_
        refine SM_holder hM he ?_
        refine g_calls1 dX10_dutyOf_71 clM_toldHolder ml_M_144 (Nat.le_of_ble_eq_true rfl) ?_
        refine SM_toldHolder hd.2.2 ?_
        refine g_ireturn dX10_dutyOf_74 rfl (by first | rfl | exact nar_bI _) ?_
        exact h2
      · obtain ⟨k1, k2, k3⟩ := plN_spec he
        refine g_tswI (off := 64) 75 dX10_dutyOf_11 (by decide) (by decide) (by decide) (by decide) ?_
        refine g_aload_n dX10_dutyOf_75 rfl ?_
        refine g_iload_n dX10_dutyOf_76 rfl ?_
        refine g_call1 dX10_dutyOf_77 clM_placeOf ml_M_147 gc10 rfl rfl (by decide) (Nat.le_of_ble_eq_true rfl) ?_
        refine SM_placeOf hM k1 k2 k3 (fun M' hE => ?_)
        refine g_ireturn dX10_dutyOf_80 rfl (by first | rfl | exact nar_bI _) ?_
        exact h M' (FrM.of hE (by decide)) (by rw [hE 58 (by decide)]; exact hM)
      · skip
        refine g_tswI (off := 70) 81 dX10_dutyOf_11 (by decide) (by decide) (by decide) (by decide) ?_
        refine g_aload_n dX10_dutyOf_81 rfl ?_
        refine g_iload_n dX10_dutyOf_82 rfl ?_
        refine g_call1 dX10_dutyOf_83 clM_whoMay ml_M_150 gc10 rfl rfl (by decide) (Nat.le_of_ble_eq_true rfl) ?_
        refine SM_whoMay hM he ?_
        refine g_ireturn dX10_dutyOf_86 rfl (by first | rfl | exact nar_bI _) ?_
        exact h2
    · rw [if_neg h5] at h2
      have hx : w.toInt < 0 ∨ 4 < w.toInt := by
        unfold inR at h5
        simp only [decide_eq_true_eq] at h5
        omega
      refine g_tswO 87 dX10_dutyOf_11 hx (by decide) ?_
      refine g_iconst ((-1)) dX10_dutyOf_87 ki_m1 ?_
      refine g_ireturn dX10_dutyOf_88 rfl (by first | rfl | exact nar_bI _) ?_
      exact h2
  · rw [if_neg (by rw [c5]; decide)] at h2
    refine g_iconst ((-1)) dX10_dutyOf_8 ki_m1 ?_
    refine g_ireturn dX10_dutyOf_9 rfl (by first | rfl | exact nar_bI _) ?_
    exact h2
theorem both_dutyOf (x w : Int32) : Both mF_dutyOf mM_dutyOf [.int x, .int w] := both_book (f_dutyOf x w) (fun M S Q => SF_dutyOf x w M S Q) (fun M S Q => SM_dutyOf x w M S Q) (fun S hW hH => hH)
def f_stands (x : Int32) (S : BS) : Int32 × BS := (if inR x (S 1 0 0) = true then nI (sd S (v2n x)) else -1, S)
theorem SF_stands (x : Int32) (M : Mm) (S : BS) (Q : Po) (hB : BK M S) (hH : HM S) (h : ∀ M', FrC M M' → BK M' (f_stands x S).2 → Q M' (some (.int (f_stands x S).1))) : Call 60 mF_stands [.ref 0, .int x] M Q := by
  have hw := hB.wf.nd
  have h2 := h M FrC.rf hB
  unfold f_stands at h2
  dsimp only at h2
  refine Call_of (m := mF_stands) [some (.ref 0), some (.int x)] rfl (fun G => Nat.le_of_ble_eq_true rfl) (fun G => rfl) ?_
  refine g_aload_n dX9_stands_0 rfl ?_
  refine g_getr (j := 0) dX9_stands_1 gc9 rfl (by decide) rfl (by decide) fl_F_13 ?_
  refine g_iload_n dX9_stands_4 rfl ?_
  refine g_call1 dX9_stands_5 clB_isDuty ml_F_176 gc0 rfl rfl (by decide) (Nat.le_of_ble_eq_true rfl) ?_
  refine SB_isDuty hB x ?_
  refine g_if_eq_b 22 dX9_stands_8 (by decide) (fun c8 => ?_) (fun c8 => ?_)
  · rw [if_neg (by rw [c8]; decide)] at h2
    refine g_iconst ((-1)) dX9_stands_22 ki_m1 ?_
    refine g_ireturn dX9_stands_23 rfl (by first | rfl | exact nar_bI _) ?_
    exact h2
  · obtain ⟨e, he, rfl⟩ := inR_true c8
    rw [if_pos c8, v2n_nI (show e < 2 ^ 31 by omega)] at h2
    refine g_aload_n dX9_stands_11 rfl ?_
    refine g_getr (j := 0) dX9_stands_12 gc9 rfl (by decide) rfl (by decide) fl_F_13 ?_
    refine g_iload_n dX9_stands_15 rfl ?_
    refine g_call1 dX9_stands_16 clB_dutyAt ml_F_197 gc0 rfl rfl (by decide) (Nat.le_of_ble_eq_true rfl) ?_
    refine SB_dutyAt hB he ?_
    refine g_goto 23 dX9_stands_19 (by decide) ?_
    refine g_ireturn dX9_stands_23 rfl (by first | rfl | exact nar_bI _) ?_
    exact h2
theorem SM_stands (x : Int32) (M : Mm) (S : BS) (Q : Po) (hM : MK (M 58) S) (hC : MC M) (hH : HM S) (h : ∀ M', FrM M M' → MK (M' 58) (f_stands x S).2 → Q M' (some (.int (f_stands x S).1))) : Call 60 mM_stands [.ref 57, .int x] M Q := by
  have hw := hM.wf.nd
  unfold f_stands at h
  dsimp only at h
  refine Call_of (m := mM_stands) [some (.ref 57), some (.int x)] rfl (fun G => Nat.le_of_ble_eq_true rfl) (fun G => rfl) ?_
  refine g_aload_n dX10_stands_0 rfl ?_
  refine g_iload_n dX10_stands_1 rfl ?_
  refine g_call1 dX10_stands_2 clM_isDuty ml_M_141 gc10 rfl rfl (by decide) (Nat.le_of_ble_eq_true rfl) ?_
  refine SM_isDuty hM x ?_
  refine g_if_ne_b 10 dX10_stands_5 (by decide) (fun c5 => ?_) (fun c5 => ?_)
  · obtain ⟨e, he, rfl⟩ := inR_true c5
    rw [if_pos c5, v2n_nI (show e < 2 ^ 31 by omega)] at h
    refine g_aload_n dX10_stands_10 rfl ?_
    refine g_call0 dX10_stands_11 clM_lines ml_M_103 gc10 rfl rfl (by decide) (Nat.le_of_ble_eq_true rfl) ?_
    refine SM_lines hM (fun M' hE h62 => ?_)
    refine g_aload_n dX10_stands_14 rfl ?_
    refine g_getr (j := 5) dX10_stands_15 gc10 rfl (by decide) rfl (by decide) fl_M_22 ?_
    refine g_iload_n dX10_stands_18 rfl ?_
    refine g_iald_n dX10_stands_19 (by first | rfl | assumption) (by first | decide | assumption) (by omega) (by omega) ?_
    try simp (disch := omega) only [h62]
    refine g_ireturn dX10_stands_20 rfl (by first | rfl | exact nar_bI _) ?_
    exact h M' (FrM.of hE (by decide)) (by rw [hE 58 (by decide)]; exact hM)
  · rw [if_neg (by rw [c5]; decide)] at h
    refine g_iconst ((-1)) dX10_stands_8 ki_m1 ?_
    refine g_ireturn dX10_stands_9 rfl (by first | rfl | exact nar_bI _) ?_
    exact h M FrM.rf hM
theorem both_stands (x : Int32) : Both mF_stands mM_stands [.int x] := both_book (f_stands x) (fun M S Q => SF_stands x M S Q) (fun M S Q => SM_stands x M S Q) (fun S hW hH => hH)
def f_may (x y : Int32) (S : BS) : Int32 × BS := (if inR x (S 0 0 0) = true ∧ inR y (S 1 0 0) = true then bI (mayB S (v2n x) (v2n y)) else -1, S)
theorem SF_may (x y : Int32) (M : Mm) (S : BS) (Q : Po) (hB : BK M S) (hH : HM S) (h : ∀ M', FrC M M' → BK M' (f_may x y S).2 → Q M' (some (.int (f_may x y S).1))) : Call 60 mF_may [.ref 0, .int x, .int y] M Q := by
  have hw := hB.wf.nd
  have hw2 := hB.wf.np
  have h2 := h M FrC.rf hB
  unfold f_may at h2
  dsimp only at h2
  refine Call_of (m := mF_may) [some (.ref 0), some (.int x), some (.int y)] rfl (fun G => Nat.le_of_ble_eq_true rfl) (fun G => rfl) ?_
  refine g_aload_n dX9_may_0 rfl ?_
  refine g_getr (j := 0) dX9_may_1 gc9 rfl (by decide) rfl (by decide) fl_F_13 ?_
  refine g_iload_n dX9_may_4 rfl ?_
  refine g_call1 dX9_may_5 clB_isOne ml_F_91 gc0 rfl rfl (by decide) (Nat.le_of_ble_eq_true rfl) ?_
  refine SB_isOne hB x ?_
  refine g_if_eq_b 22 dX9_may_8 (by decide) (fun c8 => ?_) (fun c8 => ?_)
  · rw [if_neg (by rw [c8]; simp)] at h2
    refine g_iconst ((-1)) dX9_may_22 ki_m1 ?_
    refine g_ireturn dX9_may_23 rfl (by first | rfl | exact nar_bI _) ?_
    exact h2
  · refine g_aload_n dX9_may_11 rfl ?_
    refine g_getr (j := 0) dX9_may_12 gc9 rfl (by decide) rfl (by decide) fl_F_13 ?_
    refine g_iload_n dX9_may_15 rfl ?_
    refine g_call1 dX9_may_16 clB_isDuty ml_F_176 gc0 rfl rfl (by decide) (Nat.le_of_ble_eq_true rfl) ?_
    refine SB_isDuty hB y ?_
    refine g_if_ne_b 24 dX9_may_19 (by decide) (fun c19 => ?_) (fun c19 => ?_)
    · obtain ⟨p, hp, rfl⟩ := inR_true c8
      obtain ⟨e, he, rfl⟩ := inR_true c19
      rw [if_pos ⟨c8, c19⟩, v2n_nI (show p < 2 ^ 31 by omega), v2n_nI (show e < 2 ^ 31 by omega)] at h2
      refine g_aload_n dX9_may_24 rfl ?_
      refine g_getr (j := 0) dX9_may_25 gc9 rfl (by decide) rfl (by decide) fl_F_13 ?_
      refine g_iload_n dX9_may_28 rfl ?_
      refine g_iload_n dX9_may_29 rfl ?_
      refine g_call2 dX9_may_30 clB_mayHold ml_F_200 gc0 rfl rfl (by decide) (Nat.le_of_ble_eq_true rfl) ?_
      refine SB_mayHold hB (by omega) he ?_
      refine g_if_eq_b 40 dX9_may_33 (by decide) (fun c33 => ?_) (fun c33 => ?_)
      · rw [c33] at h2
        refine g_iconst (nI 0) dX9_may_40 ki_0 ?_
        refine g_ireturn dX9_may_41 rfl (by first | rfl | exact nar_bI _) ?_
        exact h2
      · rw [c33] at h2
        refine g_iconst (nI 1) dX9_may_36 ki_1 ?_
        refine g_goto 41 dX9_may_37 (by decide) ?_
        refine g_ireturn dX9_may_41 rfl (by first | rfl | exact nar_bI _) ?_
        exact h2
    · rw [if_neg (by rw [c19]; simp)] at h2
      refine g_iconst ((-1)) dX9_may_22 ki_m1 ?_
      refine g_ireturn dX9_may_23 rfl (by first | rfl | exact nar_bI _) ?_
      exact h2
theorem SM_may (x y : Int32) (M : Mm) (S : BS) (Q : Po) (hM : MK (M 58) S) (hC : MC M) (hH : HM S) (h : ∀ M', FrM M M' → MK (M' 58) (f_may x y S).2 → Q M' (some (.int (f_may x y S).1))) : Call 60 mM_may [.ref 57, .int x, .int y] M Q := by
  have hw := hM.wf.nd
  have hw2 := hM.wf.np
  have h2 := h M FrM.rf hM
  unfold f_may at h2
  dsimp only at h2
  refine Call_of (m := mM_may) [some (.ref 57), some (.int x), some (.int y)] rfl (fun G => Nat.le_of_ble_eq_true rfl) (fun G => rfl) ?_
  refine g_aload_n dX10_may_0 rfl ?_
  refine g_iload_n dX10_may_1 rfl ?_
  refine g_call1 dX10_may_2 clM_isOne ml_M_72 gc10 rfl rfl (by decide) (Nat.le_of_ble_eq_true rfl) ?_
  refine SM_isOne hM x ?_
  refine g_if_eq_b 16 dX10_may_5 (by decide) (fun c5 => ?_) (fun c5 => ?_)
  · rw [if_neg (by rw [c5]; simp)] at h2
    refine g_iconst ((-1)) dX10_may_16 ki_m1 ?_
    refine g_goto 34 dX10_may_17 (by decide) ?_
    refine g_ireturn dX10_may_34 rfl (by first | rfl | exact nar_bI _) ?_
    exact h2
  · refine g_aload_n dX10_may_8 rfl ?_
    refine g_iload_n dX10_may_9 rfl ?_
    refine g_call1 dX10_may_10 clM_isDuty ml_M_141 gc10 rfl rfl (by decide) (Nat.le_of_ble_eq_true rfl) ?_
    refine SM_isDuty hM y ?_
    refine g_if_ne_b 20 dX10_may_13 (by decide) (fun c13 => ?_) (fun c13 => ?_)
    · obtain ⟨p, hp, rfl⟩ := inR_true c5
      obtain ⟨e, he, rfl⟩ := inR_true c13
      rw [if_pos ⟨c5, c13⟩, v2n_nI (show p < 2 ^ 31 by omega), v2n_nI (show e < 2 ^ 31 by omega)] at h2
      refine g_aload_n dX10_may_20 rfl ?_
      refine g_iload_n dX10_may_21 rfl ?_
      refine g_iload_n dX10_may_22 rfl ?_
      refine g_call2 dX10_may_23 clM_mayHold ml_M_113 gc10 rfl rfl (by decide) (Nat.le_of_ble_eq_true rfl) ?_
      refine SM_mayHold hM (by omega) he ?_
      refine g_if_eq_b 33 dX10_may_26 (by decide) (fun c26 => ?_) (fun c26 => ?_)
      · rw [c26] at h2
        refine g_iconst (nI 0) dX10_may_33 ki_0 ?_
        refine g_ireturn dX10_may_34 rfl (by first | rfl | exact nar_bI _) ?_
        exact h2
      · rw [c26] at h2
        refine g_iconst (nI 1) dX10_may_29 ki_1 ?_
        refine g_goto 34 dX10_may_30 (by decide) ?_
        refine g_ireturn dX10_may_34 rfl (by first | rfl | exact nar_bI _) ?_
        exact h2
    · rw [if_neg (by rw [c13]; simp)] at h2
      refine g_iconst ((-1)) dX10_may_16 ki_m1 ?_
      refine g_goto 34 dX10_may_17 (by decide) ?_
      refine g_ireturn dX10_may_34 rfl (by first | rfl | exact nar_bI _) ?_
      exact h2
theorem both_may (x y : Int32) : Both mF_may mM_may [.int x, .int y] := both_book (f_may x y) (fun M S Q => SF_may x y M S Q) (fun M S Q => SM_may x y M S Q) (fun S hW hH => hH)
def f_dislike (x y v : Int32) (S : BS) : Int32 × BS := if inR x (S 0 0 0) = true ∧ inR y (S 1 0 0) = true then (if inR v 10 = true then (nI (S 13 (v2n x) (v2n y)), up S 13 (v2n x) (v2n y) (v2n v)) else (-2, S)) else (-1, S)
theorem WFdl {S : BS} (hW : WF S) {p e v : Nat} (he : e < S 1 0 0) (hv : v ≤ 9) : WF (up S 13 p e v) := by
  obtain ⟨b1, b2, b3, b4, b5, b6, b7, b8, b9, b10, b11⟩ := hW
  refine ⟨b1, b2, b3, b4, b5, b6, b7, b8, b9, fun q d hq hd => ?_, fun q d hd => ?_⟩
  · by_cases z : q = p ∧ d = e
    · obtain ⟨rfl, rfl⟩ := z; rw [up_at]; exact hv
    · rw [up_off (by omega)]; exact b10 q d hq hd
  · have hd2 : S 1 0 0 ≤ d := hd
    rw [up_off (by omega)]; exact b11 q d hd
theorem BKdl1 {M : Mm} {S : BS} (hB : BK M S) {p e v : Nat} (hp : p < S 0 0 0) (he : e < S 1 0 0) (hv : v ≤ 9) : BK (mset M 13 (p * 24 + e) (nI v)) (up S 13 p e v) := by
  have hw2 := hB.wf.nd
  have hW := WFdl hB.wf (p := p) he hv
  obtain ⟨w, a1, a2, a3, a4, a5, a6, a7, a8, a9, a10, a11⟩ := hB
  refine ⟨hW, a1, a2, a3, a4, a5, a6, a7, a8, a9, a10, fun q d hq hd => ?_⟩
  by_cases z : q = p ∧ d = e
  · obtain ⟨rfl, rfl⟩ := z; rw [mset_at, up_at]
  · rw [mset_off (by omega), up_off (by omega)]; exact a11 q d hq hd
theorem MKdl1 {w : Nat → Int32} {S : BS} (hM : MK w S) {p e v : Nat} (hp : p < S 0 0 0) (he : e < S 1 0 0) (hv : v ≤ 9) : MK (upd w (323 + 24 * p + e) (nI v)) (up S 13 p e v) := by
  have hnp := hM.wf.np
  have hnd := hM.wf.nd
  have hnr := fun p (hp : p < S 0 0 0) => hM.wf.nr (p := p) (by omega)
  have hW := WFdl hM.wf (p := p) he hv
  obtain ⟨w0, a1, a2, a3, a4, a5, a6, a7, a8, a9⟩ := hM
  have ky : ∀ j, j ≠ 323 + 24 * p + e → upd w (323 + 24 * p + e) (nI v) j = w j := fun j hj => upd_off hj
  refine ⟨hW, by rw [ky 0 (by omega)]; exact a1, by rw [ky 1 (by omega)]; exact a2, by rw [ky 2 (by omega)]; exact a3, fun q hq => ?_, fun q j hq hj => ?_, fun q j hq hj => ?_, fun d hd => ?_, fun q d hq hd => ?_, MX.pos (show 0 < S 1 0 0 by omega)⟩
  · have hq2 : q < S 0 0 0 := hq
    rw [ky (3 + q) (by omega), ky (11 + q) (by omega), ky (51 + q) (by omega)]; exact a4 q hq
  · have hq2 : q < S 0 0 0 := hq
    rw [ky _ (by omega)]; exact a5 q j hq hj
  · have hq2 : q < S 0 0 0 := hq
    have := hnr q hq2
    have hj2 : j < S 6 q 0 := hj
    rw [ky _ (by omega), ky _ (by omega), ky _ (by omega)]; exact a6 q j hq hj
  · have he2 : d < S 1 0 0 := hd
    rw [ky _ (by omega), ky _ (by omega), ky _ (by omega)]; exact a7 d hd
  · have he2 : d < S 1 0 0 := hd
    by_cases z : q = p ∧ d = e
    · obtain ⟨rfl, rfl⟩ := z; rw [upd_at, up_at]
    · rw [ky _ (by omega), up_off (by omega)]; exact a8 q d hq hd
theorem SF_dislike (x y v : Int32) (M : Mm) (S : BS) (Q : Po) (hB : BK M S) (hH : HM S) (h : ∀ M', FrC M M' → BK M' (f_dislike x y v S).2 → Q M' (some (.int (f_dislike x y v S).1))) : Call 60 mF_dislike [.ref 0, .int x, .int y, .int v] M Q := by
  have hw := hB.wf.nd
  have hw2 := hB.wf.np
  refine Call_of (m := mF_dislike) [some (.ref 0), some (.int x), some (.int y), some (.int v), none] rfl (fun G => Nat.le_of_ble_eq_true rfl) (fun G => rfl) ?_
  refine g_aload_n dX9_dislike_0 rfl ?_
  refine g_getr (j := 0) dX9_dislike_1 gc9 rfl (by decide) rfl (by decide) fl_F_13 ?_
  refine g_iload_n dX9_dislike_4 rfl ?_
  refine g_call1 dX9_dislike_5 clB_isOne ml_F_91 gc0 rfl rfl (by decide) (Nat.le_of_ble_eq_true rfl) ?_
  refine SB_isOne hB x ?_
  refine g_if_eq_b 22 dX9_dislike_8 (by decide) (fun c8 => ?_) (fun c8 => ?_)
  · rw [f_dislike, if_neg (by rw [c8]; simp)] at h
    refine g_iconst ((-1)) dX9_dislike_22 ki_m1 ?_
    refine g_ireturn dX9_dislike_23 rfl (by first | rfl | exact nar_bI _) ?_
    exact h M FrC.rf hB
  · refine g_aload_n dX9_dislike_11 rfl ?_
    refine g_getr (j := 0) dX9_dislike_12 gc9 rfl (by decide) rfl (by decide) fl_F_13 ?_
    refine g_iload_n dX9_dislike_15 rfl ?_
    refine g_call1 dX9_dislike_16 clB_isDuty ml_F_176 gc0 rfl rfl (by decide) (Nat.le_of_ble_eq_true rfl) ?_
    refine SB_isDuty hB y ?_
    refine g_if_ne_b 24 dX9_dislike_19 (by decide) (fun c19 => ?_) (fun c19 => ?_)
    · obtain ⟨p, hp, rfl⟩ := inR_true c8
      obtain ⟨e, he, rfl⟩ := inR_true c19
      rw [f_dislike, if_pos ⟨c8, c19⟩, v2n_nI (show p < 2 ^ 31 by omega), v2n_nI (show e < 2 ^ 31 by omega)] at h
      refine g_iload_n dX9_dislike_24 rfl ?_
      refine g_if_lt 34 dX9_dislike_25 (by decide) (fun c25 => ?_) (fun c25 => ?_)
      · rw [if_neg (by rw [inR_f1 c25]; decide)] at h
        refine g_bipush ((-2)) dX9_dislike_34 kb_m2 ?_
        refine g_ireturn dX9_dislike_36 rfl (by first | rfl | exact nar_bI _) ?_
        exact h M FrC.rf hB
      · refine g_iload_n dX9_dislike_28 rfl ?_
        refine g_bipush (nI 9) dX9_dislike_29 kb_9 ?_
        refine g_icmp_le 37 dX9_dislike_31 (by decide) (fun c31 => ?_) (fun c31 => ?_)
        · have z := inR_le (n := 9) (by omega) c25 c31
          obtain ⟨u, hu, rfl⟩ := inR_true z
          rw [if_pos z, v2n_nI (show u < 2 ^ 31 by omega)] at h
          refine g_aload_n dX9_dislike_37 rfl ?_
          refine g_getr (j := 0) dX9_dislike_38 gc9 rfl (by decide) rfl (by decide) fl_F_13 ?_
          refine g_iload_n dX9_dislike_41 rfl ?_
          refine g_iload_n dX9_dislike_42 rfl ?_
          refine g_call2 dX9_dislike_43 clB_dislikeOf ml_F_203 gc0 rfl rfl (by decide) (Nat.le_of_ble_eq_true rfl) ?_
          refine SB_dislikeP hB hp he ?_
          refine g_ist5_4 dX9_dislike_46 (by decide) rfl ?_
          refine g_aload_n dX9_dislike_48 rfl ?_
          refine g_getr (j := 0) dX9_dislike_49 gc9 rfl (by decide) rfl (by decide) fl_F_13 ?_
          refine g_iload_n dX9_dislike_52 rfl ?_
          refine g_iload_n dX9_dislike_53 rfl ?_
          refine g_iload_n dX9_dislike_54 rfl ?_
          refine g_call3 dX9_dislike_55 clB_putDislike ml_F_206 gc0 rfl rfl (by decide) (Nat.le_of_ble_eq_true rfl) ?_
          refine SB_putDislike hB hp he ?_
          refine g_iload dX9_dislike_58 rfl ?_
          refine g_ireturn dX9_dislike_60 rfl (by first | rfl | exact nar_bI _) ?_
          exact h _ (FrC.of (EqO.set (L := [13]) (by decide)) (by decide)) (BKdl1 hB hp he (by omega))
        · rw [if_neg (by rw [inR_nle (n := 9) (by omega) c31]; decide)] at h
          refine g_bipush ((-2)) dX9_dislike_34 kb_m2 ?_
          refine g_ireturn dX9_dislike_36 rfl (by first | rfl | exact nar_bI _) ?_
          exact h M FrC.rf hB
    · rw [f_dislike, if_neg (by rw [c19]; simp)] at h
      refine g_iconst ((-1)) dX9_dislike_22 ki_m1 ?_
      refine g_ireturn dX9_dislike_23 rfl (by first | rfl | exact nar_bI _) ?_
      exact h M FrC.rf hB
theorem SM_dislike (x y v : Int32) (M : Mm) (S : BS) (Q : Po) (hM : MK (M 58) S) (hC : MC M) (hH : HM S) (h : ∀ M', FrM M M' → MK (M' 58) (f_dislike x y v S).2 → Q M' (some (.int (f_dislike x y v S).1))) : Call 60 mM_dislike [.ref 57, .int x, .int y, .int v] M Q := by
  have hw := hM.wf.nd
  have hw2 := hM.wf.np
  refine Call_of (m := mM_dislike) [some (.ref 57), some (.int x), some (.int y), some (.int v), none, none] rfl (fun G => Nat.le_of_ble_eq_true rfl) (fun G => rfl) ?_
  refine g_aload_n dX10_dislike_0 rfl ?_
  refine g_iload_n dX10_dislike_1 rfl ?_
  refine g_call1 dX10_dislike_2 clM_isOne ml_M_72 gc10 rfl rfl (by decide) (Nat.le_of_ble_eq_true rfl) ?_
  refine SM_isOne hM x ?_
  refine g_if_eq_b 16 dX10_dislike_5 (by decide) (fun c5 => ?_) (fun c5 => ?_)
  · rw [f_dislike, if_neg (by rw [c5]; simp)] at h
    refine g_iconst ((-1)) dX10_dislike_16 ki_m1 ?_
    refine g_ireturn dX10_dislike_17 rfl (by first | rfl | exact nar_bI _) ?_
    exact h M FrM.rf hM
  · refine g_aload_n dX10_dislike_8 rfl ?_
    refine g_iload_n dX10_dislike_9 rfl ?_
    refine g_call1 dX10_dislike_10 clM_isDuty ml_M_141 gc10 rfl rfl (by decide) (Nat.le_of_ble_eq_true rfl) ?_
    refine SM_isDuty hM y ?_
    refine g_if_ne_b 18 dX10_dislike_13 (by decide) (fun c13 => ?_) (fun c13 => ?_)
    · obtain ⟨p, hp, rfl⟩ := inR_true c5
      obtain ⟨e, he, rfl⟩ := inR_true c13
      rw [f_dislike, if_pos ⟨c5, c13⟩, v2n_nI (show p < 2 ^ 31 by omega), v2n_nI (show e < 2 ^ 31 by omega)] at h
      refine g_iload_n dX10_dislike_18 rfl ?_
      refine g_i2l dX10_dislike_19 ?_
      refine g_lconst (0) dX10_dislike_20 (by decide) ?_
      refine g_ldc2w (9) dX10_dislike_21 kl_M_153 ?_
      refine g_calls3 dX10_dislike_24 clM_in ml_M_68 (Nat.le_of_ble_eq_true rfl) ?_
      refine SM_in _ _ _ ?_
      rw [inJ_L (n := 10) (by decide)]
      refine g_if_ne_b 33 dX10_dislike_27 (by decide) (fun c27 => ?_) (fun c27 => ?_)
      · obtain ⟨u, hu, rfl⟩ := inR_true c27
        rw [if_pos c27, v2n_nI (show u < 2 ^ 31 by omega)] at h
        refine g_sipush (nI 323) dX10_dislike_33 ks_323 ?_
        refine g_bipush (nI 24) dX10_dislike_36 kb_24 ?_
        refine g_iload_n dX10_dislike_38 rfl ?_
        first | refine g_imul_n dX10_dislike_39 ?_ | refine g_imul dX10_dislike_39 ?_
        first | refine g_iadd_n dX10_dislike_40 ?_ | refine g_iadd dX10_dislike_40 ?_
        refine g_iload_n dX10_dislike_41 rfl ?_
        first | refine g_iadd_n dX10_dislike_42 ?_ | refine g_iadd dX10_dislike_42 ?_
        refine g_ist6_4 dX10_dislike_43 (by decide) rfl ?_
        refine g_aload_n dX10_dislike_45 rfl ?_
        refine g_getr (j := 0) dX10_dislike_46 gc10 rfl (by decide) rfl (by decide) fl_M_9 ?_
        refine g_iload dX10_dislike_49 rfl ?_
        refine g_iald_n dX10_dislike_51 (by first | rfl | assumption) (by first | decide | assumption) (by omega) (by omega) ?_
        try simp (disch := omega) only [hM.dl]
        refine g_ist6_5 dX10_dislike_52 (by decide) rfl ?_
        refine g_aload_n dX10_dislike_54 rfl ?_
        refine g_getr (j := 0) dX10_dislike_55 gc10 rfl (by decide) rfl (by decide) fl_M_9 ?_
        refine g_iload dX10_dislike_58 rfl ?_
        refine g_iload_n dX10_dislike_60 rfl ?_
        refine g_iast_n dX10_dislike_61 (by first | rfl | assumption) (by first | decide | assumption) (by omega) (by omega) ?_
        refine g_iload dX10_dislike_62 rfl ?_
        refine g_ireturn dX10_dislike_64 rfl (by first | rfl | exact nar_bI _) ?_
        refine h _ (FrM.of (EqO.set (L := [58]) (by decide)) (by decide)) ?_
        rw [mset_row]
        exact MKdl1 hM hp he (by omega)
      · rw [if_neg (by rw [c27]; decide)] at h
        refine g_bipush ((-2)) dX10_dislike_30 kb_m2 ?_
        refine g_ireturn dX10_dislike_32 rfl (by first | rfl | exact nar_bI _) ?_
        exact h M FrM.rf hM
    · rw [f_dislike, if_neg (by rw [c13]; simp)] at h
      refine g_iconst ((-1)) dX10_dislike_16 ki_m1 ?_
      refine g_ireturn dX10_dislike_17 rfl (by first | rfl | exact nar_bI _) ?_
      exact h M FrM.rf hM
theorem HO_up {S : BS} (hH : HM S) {f i j v : Nat} (hf : f = 13) : HM (up S f i j v) := by
  intro d hd h8
  subst hf
  rw [up_off (by omega)] at hd
  have e12 : up S 13 i j v 12 d 0 = S 12 d 0 := up_off (by omega)
  rw [e12] at h8 ⊢
  rw [may_cong (up_off (by omega)) (up_off (by omega)) (fun r => up_off (by omega)) (fun r => up_off (by omega)) (fun r => up_off (by omega)) (up_off (by omega)) (up_off (by omega))]
  exact hH d hd h8
theorem both_dislike (x y v : Int32) : Both mF_dislike mM_dislike [.int x, .int y, .int v] := both_book (f_dislike x y v) (fun M S Q => SF_dislike x y v M S Q) (fun M S Q => SM_dislike x y v M S Q) (fun S hW hH => by
  unfold f_dislike
  split
  · split
    · exact HO_up hH rfl
    · exact hH
  · exact hH)
def f_hold (y x : Int32) (S : BS) : Int32 × BS := if inR y (S 1 0 0) = true ∧ inR x (S 0 0 0) = true then (if mayB S (v2n x) (v2n y) = true then (tH (S 12 (v2n y) 0), up S 12 (v2n y) 0 (v2n x)) else (-7, S)) else (-1, S)
theorem SF_hold (y x : Int32) (M : Mm) (S : BS) (Q : Po) (hB : BK M S) (hH : HM S) (h : ∀ M', FrC M M' → BK M' (f_hold y x S).2 → Q M' (some (.int (f_hold y x S).1))) : Call 60 mF_hold [.ref 0, .int y, .int x] M Q := by
  have hw := hB.wf.nd
  have hw2 := hB.wf.np
  refine Call_of (m := mF_hold) [some (.ref 0), some (.int y), some (.int x), none] rfl (fun G => Nat.le_of_ble_eq_true rfl) (fun G => rfl) ?_
  refine g_aload_n dX9_hold_0 rfl ?_
  refine g_getr (j := 0) dX9_hold_1 gc9 rfl (by decide) rfl (by decide) fl_F_13 ?_
  refine g_iload_n dX9_hold_4 rfl ?_
  refine g_call1 dX9_hold_5 clB_isDuty ml_F_176 gc0 rfl rfl (by decide) (Nat.le_of_ble_eq_true rfl) ?_
  refine SB_isDuty hB y ?_
  refine g_if_eq_b 22 dX9_hold_8 (by decide) (fun c8 => ?_) (fun c8 => ?_)
  · rw [f_hold, if_neg (by rw [c8]; simp)] at h
    refine g_iconst ((-1)) dX9_hold_22 ki_m1 ?_
    refine g_ireturn dX9_hold_23 rfl (by first | rfl | exact nar_bI _) ?_
    exact h M FrC.rf hB
  · refine g_aload_n dX9_hold_11 rfl ?_
    refine g_getr (j := 0) dX9_hold_12 gc9 rfl (by decide) rfl (by decide) fl_F_13 ?_
    refine g_iload_n dX9_hold_15 rfl ?_
    refine g_call1 dX9_hold_16 clB_isOne ml_F_91 gc0 rfl rfl (by decide) (Nat.le_of_ble_eq_true rfl) ?_
    refine SB_isOne hB x ?_
    refine g_if_ne_b 24 dX9_hold_19 (by decide) (fun c19 => ?_) (fun c19 => ?_)
    · obtain ⟨e, he, rfl⟩ := inR_true c8
      obtain ⟨p, hp, rfl⟩ := inR_true c19
      rw [f_hold, if_pos ⟨c8, c19⟩, v2n_nI (show p < 2 ^ 31 by omega), v2n_nI (show e < 2 ^ 31 by omega)] at h
      have hd := hB.wf.dk (d := e) (by omega)
      refine g_aload_n dX9_hold_24 rfl ?_
      refine g_getr (j := 0) dX9_hold_25 gc9 rfl (by decide) rfl (by decide) fl_F_13 ?_
      refine g_iload_n dX9_hold_28 rfl ?_
      refine g_iload_n dX9_hold_29 rfl ?_
      refine g_call2 dX9_hold_30 clB_mayHold ml_F_200 gc0 rfl rfl (by decide) (Nat.le_of_ble_eq_true rfl) ?_
      refine SB_mayHold hB (by omega) he ?_
      refine g_if_ne_b 39 dX9_hold_33 (by decide) (fun c33 => ?_) (fun c33 => ?_)
      · rw [if_pos c33] at h
        refine g_aload_n dX9_hold_39 rfl ?_
        refine g_getr (j := 0) dX9_hold_40 gc9 rfl (by decide) rfl (by decide) fl_F_13 ?_
        refine g_iload_n dX9_hold_43 rfl ?_
        refine g_call1 dX9_hold_44 clB_holderOf ml_F_185 gc0 rfl rfl (by decide) (Nat.le_of_ble_eq_true rfl) ?_
        refine SB_holderOf hB he ?_
        refine g_ist4_3 dX9_hold_47 (by decide) rfl ?_
        refine g_aload_n dX9_hold_48 rfl ?_
        refine g_getr (j := 0) dX9_hold_49 gc9 rfl (by decide) rfl (by decide) fl_F_13 ?_
        refine g_iload_n dX9_hold_52 rfl ?_
        refine g_iload_n dX9_hold_53 rfl ?_
        refine g_call2 dX9_hold_54 clB_putHolder ml_F_209 gc0 rfl rfl (by decide) (Nat.le_of_ble_eq_true rfl) ?_
        refine SB_putHolder hB he ?_
        refine g_iload_n dX9_hold_57 rfl ?_
        refine g_calls1 dX9_hold_58 clF_orNobody ml_F_188 (Nat.le_of_ble_eq_true rfl) ?_
        refine SF_orNobody hd.2.2 ?_
        refine g_ireturn dX9_hold_61 rfl (by first | rfl | exact nar_bI _) ?_
        refine h _ (FrC.of (EqO.set (L := [2]) (by decide)) (by decide)) ?_
        rw [← hv_p (p := p) (by omega)]
        exact hB.hol1 he (by omega)
      · rw [if_neg (by rw [c33]; decide)] at h
        refine g_bipush ((-7)) dX9_hold_36 kb_m7 ?_
        refine g_ireturn dX9_hold_38 rfl (by first | rfl | exact nar_bI _) ?_
        exact h M FrC.rf hB
    · rw [f_hold, if_neg (by rw [c19]; simp)] at h
      refine g_iconst ((-1)) dX9_hold_22 ki_m1 ?_
      refine g_ireturn dX9_hold_23 rfl (by first | rfl | exact nar_bI _) ?_
      exact h M FrC.rf hB
theorem SM_hold (y x : Int32) (M : Mm) (S : BS) (Q : Po) (hM : MK (M 58) S) (hC : MC M) (hH : HM S) (h : ∀ M', FrM M M' → MK (M' 58) (f_hold y x S).2 → Q M' (some (.int (f_hold y x S).1))) : Call 60 mM_hold [.ref 57, .int y, .int x] M Q := by
  have hw := hM.wf.nd
  have hw2 := hM.wf.np
  refine Call_of (m := mM_hold) [some (.ref 57), some (.int y), some (.int x), none] rfl (fun G => Nat.le_of_ble_eq_true rfl) (fun G => rfl) ?_
  refine g_aload_n dX10_hold_0 rfl ?_
  refine g_iload_n dX10_hold_1 rfl ?_
  refine g_call1 dX10_hold_2 clM_isDuty ml_M_141 gc10 rfl rfl (by decide) (Nat.le_of_ble_eq_true rfl) ?_
  refine SM_isDuty hM y ?_
  refine g_if_eq_b 16 dX10_hold_5 (by decide) (fun c5 => ?_) (fun c5 => ?_)
  · rw [f_hold, if_neg (by rw [c5]; simp)] at h
    refine g_iconst ((-1)) dX10_hold_16 ki_m1 ?_
    refine g_ireturn dX10_hold_17 rfl (by first | rfl | exact nar_bI _) ?_
    exact h M FrM.rf hM
  · refine g_aload_n dX10_hold_8 rfl ?_
    refine g_iload_n dX10_hold_9 rfl ?_
    refine g_call1 dX10_hold_10 clM_isOne ml_M_72 gc10 rfl rfl (by decide) (Nat.le_of_ble_eq_true rfl) ?_
    refine SM_isOne hM x ?_
    refine g_if_ne_b 18 dX10_hold_13 (by decide) (fun c13 => ?_) (fun c13 => ?_)
    · obtain ⟨e, he, rfl⟩ := inR_true c5
      obtain ⟨p, hp, rfl⟩ := inR_true c13
      rw [f_hold, if_pos ⟨c5, c13⟩, v2n_nI (show p < 2 ^ 31 by omega), v2n_nI (show e < 2 ^ 31 by omega)] at h
      have hd := hM.wf.dk (d := e) (by omega)
      refine g_aload_n dX10_hold_18 rfl ?_
      refine g_iload_n dX10_hold_19 rfl ?_
      refine g_iload_n dX10_hold_20 rfl ?_
      refine g_call2 dX10_hold_21 clM_mayHold ml_M_113 gc10 rfl rfl (by decide) (Nat.le_of_ble_eq_true rfl) ?_
      refine SM_mayHold hM (by omega) he ?_
      refine g_if_ne_b 30 dX10_hold_24 (by decide) (fun c24 => ?_) (fun c24 => ?_)
      · rw [if_pos c24] at h
        refine g_aload_n dX10_hold_30 rfl ?_
        refine g_iload_n dX10_hold_31 rfl ?_
        refine g_call1 dX10_hold_32 clM_holder ml_M_78 gc10 rfl rfl (by decide) (Nat.le_of_ble_eq_true rfl) ?_
        refine SM_holder hM he ?_
        refine g_ist4_3 dX10_hold_35 (by decide) rfl ?_
        refine g_aload_n dX10_hold_36 rfl ?_
        refine g_getr (j := 0) dX10_hold_37 gc10 rfl (by decide) rfl (by decide) fl_M_9 ?_
        refine g_sipush (nI 299) dX10_hold_40 ks_299 ?_
        refine g_iload_n dX10_hold_43 rfl ?_
        first | refine g_iadd_n dX10_hold_44 ?_ | refine g_iadd dX10_hold_44 ?_
        refine g_iload_n dX10_hold_45 rfl ?_
        refine g_iast_n dX10_hold_46 (by first | rfl | assumption) (by first | decide | assumption) (by omega) (by omega) ?_
        refine g_iload_n dX10_hold_47 rfl ?_
        refine g_calls1 dX10_hold_48 clM_toldHolder ml_M_144 (Nat.le_of_ble_eq_true rfl) ?_
        refine SM_toldHolder hd.2.2 ?_
        refine g_ireturn dX10_hold_51 rfl (by first | rfl | exact nar_bI _) ?_
        refine h _ (FrM.of (EqO.set (L := [58]) (by decide)) (by decide)) ?_
        rw [mset_row, ← hv_p (p := p) (by omega)]
        exact hM.hol1 he (by omega)
      · rw [if_neg (by rw [c24]; decide)] at h
        refine g_bipush ((-7)) dX10_hold_27 kb_m7 ?_
        refine g_ireturn dX10_hold_29 rfl (by first | rfl | exact nar_bI _) ?_
        exact h M FrM.rf hM
    · rw [f_hold, if_neg (by rw [c13]; simp)] at h
      refine g_iconst ((-1)) dX10_hold_16 ki_m1 ?_
      refine g_ireturn dX10_hold_17 rfl (by first | rfl | exact nar_bI _) ?_
      exact h M FrM.rf hM
theorem HO_ho {S : BS} (hH : HM S) {e q : Nat} (hq : q < 8 → mayB S q e = true) : HM (up S 12 e 0 q) := by
  intro d hd h8
  rw [up_off (by omega)] at hd
  rw [may_ho (fun a ha => by funext b c; exact up_off (fun z => ha z.1))]
  by_cases z : d = e
  · subst z; rw [up_at] at h8 ⊢; exact hq h8
  · have e12 : up S 12 e 0 q 12 d 0 = S 12 d 0 := up_off (by omega)
    rw [e12] at h8 ⊢
    exact hH d hd h8
theorem both_hold (y x : Int32) : Both mF_hold mM_hold [.int y, .int x] := both_book (f_hold y x) (fun M S Q => SF_hold y x M S Q) (fun M S Q => SM_hold y x M S Q) (fun S hW hH => by
  unfold f_hold
  split
  · split
    · rename_i hm
      exact HO_ho hH (fun _ => hm)
    · exact hH
  · exact hH)
def f_open (y : Int32) (S : BS) : Int32 × BS := if inR y (S 1 0 0) = true then (if S 12 (v2n y) 0 = 8 then (-3, S) else (nI (S 12 (v2n y) 0), up S 12 (v2n y) 0 8)) else (-1, S)
theorem SF_open (y : Int32) (M : Mm) (S : BS) (Q : Po) (hB : BK M S) (hH : HM S) (h : ∀ M', FrC M M' → BK M' (f_open y S).2 → Q M' (some (.int (f_open y S).1))) : Call 60 mF_open [.ref 0, .int y] M Q := by
  have hw := hB.wf.nd
  refine Call_of (m := mF_open) [some (.ref 0), some (.int y), none] rfl (fun G => Nat.le_of_ble_eq_true rfl) (fun G => rfl) ?_
  refine g_aload_n dX9_open_0 rfl ?_
  refine g_getr (j := 0) dX9_open_1 gc9 rfl (by decide) rfl (by decide) fl_F_13 ?_
  refine g_iload_n dX9_open_4 rfl ?_
  refine g_call1 dX9_open_5 clB_isDuty ml_F_176 gc0 rfl rfl (by decide) (Nat.le_of_ble_eq_true rfl) ?_
  refine SB_isDuty hB y ?_
  refine g_if_ne_b 13 dX9_open_8 (by decide) (fun c8 => ?_) (fun c8 => ?_)
  · obtain ⟨e, he, rfl⟩ := inR_true c8
    rw [f_open, if_pos c8, v2n_nI (show e < 2 ^ 31 by omega)] at h
    have hd := hB.wf.dk (d := e) (by omega)
    refine g_aload_n dX9_open_13 rfl ?_
    refine g_getr (j := 0) dX9_open_14 gc9 rfl (by decide) rfl (by decide) fl_F_13 ?_
    refine g_iload_n dX9_open_17 rfl ?_
    refine g_call1 dX9_open_18 clB_holderOf ml_F_185 gc0 rfl rfl (by decide) (Nat.le_of_ble_eq_true rfl) ?_
    refine SB_holderOf hB he ?_
    refine g_ist3_2 dX9_open_21 (by decide) rfl ?_
    refine g_iload_n dX9_open_22 rfl ?_
    refine g_iconst ((-1)) dX9_open_23 ki_m1 ?_
    refine g_icmp_ne 30 dX9_open_24 (by decide) (fun c24 => ?_) (fun c24 => ?_)
    · rw [hv_open _ hd.2.2] at c24
      rw [if_neg c24] at h
      refine g_aload_n dX9_open_30 rfl ?_
      refine g_getr (j := 0) dX9_open_31 gc9 rfl (by decide) rfl (by decide) fl_F_13 ?_
      refine g_iload_n dX9_open_34 rfl ?_
      refine g_iconst ((-1)) dX9_open_35 ki_m1 ?_
      refine g_call2 dX9_open_36 clB_putHolder ml_F_209 gc0 rfl rfl (by decide) (Nat.le_of_ble_eq_true rfl) ?_
      refine SB_putHolder hB he ?_
      refine g_iload_n dX9_open_39 rfl ?_
      refine g_ireturn dX9_open_40 rfl (by first | rfl | exact nar_bI _) ?_
      rw [hv_p (by omega)]
      refine h _ (FrC.of (EqO.set (L := [2]) (by decide)) (by decide)) ?_
      rw [← hv_8]
      exact hB.hol1 he (by omega)
    · rw [hv_open _ hd.2.2] at c24
      rw [if_pos c24] at h
      refine g_bipush ((-3)) dX9_open_27 kb_m3 ?_
      refine g_ireturn dX9_open_29 rfl (by first | rfl | exact nar_bI _) ?_
      exact h M FrC.rf hB
  · rw [f_open, if_neg (by rw [c8]; decide)] at h
    refine g_iconst ((-1)) dX9_open_11 ki_m1 ?_
    refine g_ireturn dX9_open_12 rfl (by first | rfl | exact nar_bI _) ?_
    exact h M FrC.rf hB
theorem SM_open (y : Int32) (M : Mm) (S : BS) (Q : Po) (hM : MK (M 58) S) (hC : MC M) (hH : HM S) (h : ∀ M', FrM M M' → MK (M' 58) (f_open y S).2 → Q M' (some (.int (f_open y S).1))) : Call 60 mM_open [.ref 57, .int y] M Q := by
  have hw := hM.wf.nd
  refine Call_of (m := mM_open) [some (.ref 57), some (.int y), none] rfl (fun G => Nat.le_of_ble_eq_true rfl) (fun G => rfl) ?_
  refine g_aload_n dX10_open_0 rfl ?_
  refine g_iload_n dX10_open_1 rfl ?_
  refine g_call1 dX10_open_2 clM_isDuty ml_M_141 gc10 rfl rfl (by decide) (Nat.le_of_ble_eq_true rfl) ?_
  refine SM_isDuty hM y ?_
  refine g_if_ne_b 10 dX10_open_5 (by decide) (fun c5 => ?_) (fun c5 => ?_)
  · obtain ⟨e, he, rfl⟩ := inR_true c5
    rw [f_open, if_pos c5, v2n_nI (show e < 2 ^ 31 by omega)] at h
    have hd := hM.wf.dk (d := e) (by omega)
    refine g_aload_n dX10_open_10 rfl ?_
    refine g_iload_n dX10_open_11 rfl ?_
    refine g_call1 dX10_open_12 clM_holder ml_M_78 gc10 rfl rfl (by decide) (Nat.le_of_ble_eq_true rfl) ?_
    refine SM_holder hM he ?_
    refine g_ist3_2 dX10_open_15 (by decide) rfl ?_
    refine g_aload_n dX10_open_16 rfl ?_
    refine g_getr (j := 0) dX10_open_17 gc10 rfl (by decide) rfl (by decide) fl_M_9 ?_
    refine g_sipush (nI 299) dX10_open_20 ks_299 ?_
    refine g_iload_n dX10_open_23 rfl ?_
    first | refine g_iadd_n dX10_open_24 ?_ | refine g_iadd dX10_open_24 ?_
    refine g_iconst ((-1)) dX10_open_25 ki_m1 ?_
    refine g_iast_n dX10_open_26 (by first | rfl | assumption) (by first | decide | assumption) (by omega) (by omega) ?_
    refine g_iload_n dX10_open_27 rfl ?_
    refine g_if_ge 36 dX10_open_28 (by decide) (fun c28 => ?_) (fun c28 => ?_)
    · have hne : ¬ S 12 e 0 = 8 := fun z => by rw [z, hv_8] at c28; exact absurd c28 (by decide)
      rw [if_neg hne] at h
      refine g_iload_n dX10_open_36 rfl ?_
      refine g_ireturn dX10_open_37 rfl (by first | rfl | exact nar_bI _) ?_
      rw [hv_p (by omega)]
      refine h _ (FrM.of (EqO.set (L := [58]) (by decide)) (by decide)) ?_
      rw [mset_row, ← hv_8]
      exact hM.hol1 he (by omega)
    · have hne : S 12 e 0 = 8 := by
        rcases Nat.lt_or_ge (S 12 e 0) 8 with z | z
        · rw [hv_p z] at c28; exact absurd (nI_pos' (by omega)) c28
        · omega
      rw [if_pos hne] at h
      refine g_bipush ((-3)) dX10_open_31 kb_m3 ?_
      refine g_goto 37 dX10_open_33 (by decide) ?_
      refine g_ireturn dX10_open_37 rfl (by first | rfl | exact nar_bI _) ?_
      refine h _ (FrM.of (EqO.set (L := [58]) (by decide)) (by decide)) ?_
      rw [mset_row, ← hv_8]
      have := hM.hol1 (e := e) (q := 8) he (by omega)
      rw [show up S 12 e 0 8 = S from ?_] at this
      · exact this
      · funext a b c
        by_cases z : a = 12 ∧ b = e ∧ c = 0
        · obtain ⟨rfl, rfl, rfl⟩ := z; rw [up_at]; exact hne.symm
        · exact up_off z
  · rw [f_open, if_neg (by rw [c5]; decide)] at h
    refine g_iconst ((-1)) dX10_open_8 ki_m1 ?_
    refine g_ireturn dX10_open_9 rfl (by first | rfl | exact nar_bI _) ?_
    exact h M FrM.rf hM
theorem both_open (y : Int32) : Both mF_open mM_open [.int y] := both_book (f_open y) (fun M S Q => SF_open y M S Q) (fun M S Q => SM_open y M S Q) (fun S hW hH => by
  unfold f_open
  split
  · split
    · exact hH
    · exact HO_ho hH (fun h => absurd h (by decide))
  · exact hH)
/-! PATHS, as lists: who was come to, by which duty (24: by none) -/
abbrev PS : Type := List Nat × (Nat → Nat)
def meetP (q : PS) (p d : Nat) : PS := if p ∈ q.1 then q else (q.1 ++ [p], fun x => if x = p then d else q.2 x)
def mwP (S : BS) (d : Nat) : Nat → PS → PS
  | 0, q => q
  | n + 1, q => if mayB S n d = true then meetP (mwP S d n q) n d else mwP S d n q
def gdP (S : BS) (k p : Nat) : Nat → PS → PS
  | 0, q => q
  | n + 1, q => if S 11 n 0 = k ∧ S 12 n 0 = p then mwP S n (S 0 0 0) (gdP S k p n q) else gdP S k p n q
def gsP (S : BS) (k : Nat) : Nat → Nat → PS → PS
  | 0, _, q => q
  | f + 1, i, q => if i < q.1.length then gsP S k f (i + 1) (gdP S k (q.1.getD i 0) (S 1 0 0) q) else q
/-- the least of them by LOADS, of like ones the first (8: none) -/
def lmP (S : BS) (k : Nat) (l : List Nat) : Nat → Nat
  | 0 => 8
  | n + 1 => if lmP S k l n = 8 ∨ loadN S (l.getD n 0) k < loadN S (lmP S k l n) k then l.getD n 0 else lmP S k l n
/-- what holds of a path: o tells whether an OPEN duty may be its beginning -/
def TR (S : BS) (k : Nat) (o : Prop) (q : PS) : Prop := q.1.Nodup ∧ (∀ p ∈ q.1, p < S 0 0 0) ∧ ∀ i, i < q.1.length → (q.2 (q.1.getD i 0) = 24 ∧ i = 0 ∧ ¬ o) ∨ (q.2 (q.1.getD i 0) < S 1 0 0 ∧ S 11 (q.2 (q.1.getD i 0)) 0 = k ∧ mayB S (q.1.getD i 0) (q.2 (q.1.getD i 0)) = true ∧ ((o ∧ S 12 (q.2 (q.1.getD i 0)) 0 = 8) ∨ ∃ j, j < i ∧ q.1.getD j 0 = S 12 (q.2 (q.1.getD i 0)) 0))
theorem getD_mem {l : List Nat} {i : Nat} (h : i < l.length) : l.getD i 0 ∈ l := by
  rw [List.getD_eq_getElem?_getD, List.getElem?_eq_getElem h]
  exact List.getElem_mem h
theorem getD_app {l : List Nat} {p i : Nat} (h : i < l.length) : (l ++ [p]).getD i 0 = l.getD i 0 := by
  rw [List.getD_eq_getElem?_getD, List.getD_eq_getElem?_getD, List.getElem?_append_left h]
theorem getD_last {l : List Nat} {p : Nat} : (l ++ [p]).getD l.length 0 = p := by
  rw [List.getD_eq_getElem?_getD, List.getElem?_append_right (Nat.le_refl _)]
  simp
theorem getD_of_mem {l : List Nat} {p : Nat} (h : p ∈ l) : ∃ i, i < l.length ∧ l.getD i 0 = p := by
  obtain ⟨i, hi, e⟩ := List.getElem_of_mem h
  exact ⟨i, hi, by rw [List.getD_eq_getElem?_getD, List.getElem?_eq_getElem hi]; exact e⟩
theorem nodup_len : ∀ {n : Nat} {l : List Nat}, l.Nodup → (∀ p ∈ l, p < n) → l.length ≤ n
  | 0, l, _, hb => by
    cases l with
    | nil => exact Nat.le_refl 0
    | cons a l => exact absurd (hb a List.mem_cons_self) (by omega)
  | n + 1, l, h, hb => by
    by_cases hn : n ∈ l
    · have h1 := nodup_len (n := n) (l := l.erase n) (h.erase n) (fun p hp => by
        have h2 := (List.Nodup.mem_erase_iff h).mp hp
        have := hb p h2.2
        have := h2.1
        omega)
      rw [List.length_erase_of_mem hn] at h1
      omega
    · have h1 := nodup_len (n := n) (l := l) h (fun p hp => by
        have := hb p hp
        have : p ≠ n := fun e => hn (e ▸ hp)
        omega)
      omega
theorem TR.len {S : BS} (hW : WF S) {k : Nat} {o : Prop} {q : PS} (h : TR S k o q) : q.1.length ≤ S 0 0 0 := nodup_len h.1 h.2.1
theorem TR.meet {S : BS} {k : Nat} {o : Prop} {q : PS} (h : TR S k o q) {p d : Nat} (hp : p < S 0 0 0) (hd : d < S 1 0 0) (hk : S 11 d 0 = k) (hm : mayB S p d = true) (hb : (o ∧ S 12 d 0 = 8) ∨ S 12 d 0 ∈ q.1) : TR S k o (meetP q p d) := by
  unfold meetP
  split
  · exact h
  · rename_i hn
    obtain ⟨h1, h2, h3⟩ := h
    refine ⟨?_, fun x hx => ?_, fun i hi => ?_⟩
    · rw [List.nodup_append]
      refine ⟨h1, by simp, fun a ha b hb2 e => ?_⟩
      rw [List.mem_singleton] at hb2
      subst hb2
      subst e
      exact hn ha
    · rcases List.mem_append.mp hx with z | z
      · exact h2 x z
      · rw [List.mem_singleton.mp z]; exact hp
    · dsimp only at hi ⊢
      rw [List.length_append, List.length_singleton] at hi
      rcases Nat.lt_or_ge i q.1.length with z | z
      · have hne : q.1.getD i 0 ≠ p := fun e => hn (e ▸ getD_mem z)
        rw [getD_app z, if_neg hne]
        rcases h3 i z with ⟨a1, a2⟩ | ⟨a1, a2, a3, a4⟩
        · exact Or.inl ⟨a1, a2⟩
        · refine Or.inr ⟨a1, a2, a3, ?_⟩
          rcases a4 with a4 | ⟨j, hj, e⟩
          · exact Or.inl a4
          · exact Or.inr ⟨j, hj, by rw [getD_app (by omega)]; exact e⟩
      · have : i = q.1.length := by omega
        subst this
        rw [getD_last, if_pos rfl]
        refine Or.inr ⟨hd, hk, hm, ?_⟩
        rcases hb with hb | hb
        · exact Or.inl hb
        · obtain ⟨j, hj, e⟩ := getD_of_mem hb
          exact Or.inr ⟨j, hj, by rw [getD_app hj]; exact e⟩
theorem meetP_sub (q : PS) (p d : Nat) : ∀ x ∈ q.1, x ∈ (meetP q p d).1 := fun x hx => by
  unfold meetP
  split
  · exact hx
  · exact List.mem_append.mpr (Or.inl hx)
theorem meetP_len (q : PS) (p d : Nat) : q.1.length ≤ (meetP q p d).1.length := by
  unfold meetP
  split
  · exact Nat.le_refl _
  · rw [List.length_append]; omega
theorem meetP_get (q : PS) (p d : Nat) {i : Nat} (h : i < q.1.length) : (meetP q p d).1.getD i 0 = q.1.getD i 0 := by
  unfold meetP
  split
  · rfl
  · exact getD_app h
/-- a step keeps what it found, and its beginning -/
def exP (q q' : PS) : Prop := q.1.length ≤ q'.1.length ∧ (∀ i, i < q.1.length → q'.1.getD i 0 = q.1.getD i 0) ∧ ∀ x ∈ q.1, x ∈ q'.1 ∧ q'.2 x = q.2 x
theorem exP.rf (q : PS) : exP q q := ⟨Nat.le_refl _, fun _ _ => rfl, fun x hx => ⟨hx, rfl⟩⟩
theorem exP.tr {a b c : PS} (h : exP a b) (h2 : exP b c) : exP a c := ⟨Nat.le_trans h.1 h2.1, fun i hi => (h2.2.1 i (by have := h.1; omega)).trans (h.2.1 i hi), fun x hx => ⟨(h2.2.2 x (h.2.2 x hx).1).1, ((h2.2.2 x (h.2.2 x hx).1).2).trans (h.2.2 x hx).2⟩⟩
theorem meetP_ex (q : PS) (p d : Nat) : exP q (meetP q p d) := ⟨meetP_len q p d, fun i hi => meetP_get q p d hi, fun x hx => ⟨meetP_sub q p d x hx, by
  unfold meetP
  split
  · rfl
  · rename_i hn
    have hne : x ≠ p := fun e => hn (by rw [← e]; exact hx)
    show (if x = p then d else q.2 x) = q.2 x
    rw [if_neg hne]⟩⟩
theorem mwP_ok {S : BS} {k : Nat} {o : Prop} {d : Nat} (hd : d < S 1 0 0) (hk : S 11 d 0 = k) : ∀ {n : Nat} {q : PS}, n ≤ S 0 0 0 → TR S k o q → ((o ∧ S 12 d 0 = 8) ∨ S 12 d 0 ∈ q.1) → TR S k o (mwP S d n q) ∧ exP q (mwP S d n q)
  | 0, q, _, h, _ => ⟨h, exP.rf q⟩
  | n + 1, q, hn, h, hb => by
    obtain ⟨h1, h2⟩ := mwP_ok hd hk (n := n) (by omega) h hb
    rw [mwP]
    split
    · rename_i hm
      refine ⟨h1.meet (by omega) hd hk hm ?_, h2.tr (meetP_ex _ _ _)⟩
      rcases hb with hb | hb
      · exact Or.inl hb
      · exact Or.inr (h2.2.2 _ hb).1
    · exact ⟨h1, h2⟩
theorem gdP_ok {S : BS} {k : Nat} {o : Prop} {p : Nat} : ∀ {n : Nat} {q : PS}, n ≤ S 1 0 0 → TR S k o q → p ∈ q.1 → TR S k o (gdP S k p n q) ∧ exP q (gdP S k p n q)
  | 0, q, _, h, _ => ⟨h, exP.rf q⟩
  | n + 1, q, hn, h, hp => by
    obtain ⟨h1, h2⟩ := gdP_ok (n := n) (by omega) h hp
    rw [gdP]
    split
    · rename_i hc
      obtain ⟨h3, h4⟩ := mwP_ok (o := o) (d := n) (by omega) hc.1 (Nat.le_refl _) h1 (Or.inr (by rw [hc.2]; exact (h2.2.2 _ hp).1))
      exact ⟨h3, h2.tr h4⟩
    · exact ⟨h1, h2⟩
theorem gsP_ok {S : BS} {k : Nat} {o : Prop} : ∀ {f i : Nat} {q : PS}, TR S k o q → TR S k o (gsP S k f i q) ∧ exP q (gsP S k f i q)
  | 0, i, q, h => ⟨h, exP.rf q⟩
  | f + 1, i, q, h => by
    rw [gsP]
    split
    · rename_i hi
      obtain ⟨h1, h2⟩ := gdP_ok (n := S 1 0 0) (Nat.le_refl _) h (getD_mem hi)
      obtain ⟨h3, h4⟩ := gsP_ok (f := f) (i := i + 1) h1
      exact ⟨h3, h2.tr h4⟩
    · exact ⟨h, exP.rf q⟩
theorem TR.one (S : BS) (k : Nat) {p : Nat} (hp : p < S 0 0 0) : TR S k False ([p], fun _ => 24) := by
  refine ⟨by simp, fun x hx => by rw [List.mem_singleton.mp hx]; exact hp, fun i hi => ?_⟩
  have : i = 0 := by simp at hi; omega
  subst this
  exact Or.inl ⟨rfl, rfl, fun h => h⟩
theorem TR.nil (S : BS) (k : Nat) (o : Prop) : TR S k o ([], fun _ => 24) := ⟨by simp, fun x hx => by simp at hx, fun i hi => by simp at hi⟩
theorem lmP_mem {S : BS} {k : Nat} {l : List Nat} (h8 : ∀ p ∈ l, p < 8) : ∀ {n : Nat}, n ≤ l.length → (n = 0 ∧ lmP S k l n = 8) ∨ (0 < n ∧ lmP S k l n ∈ l)
  | 0, _ => Or.inl ⟨rfl, rfl⟩
  | n + 1, hn => by
    refine Or.inr ⟨by omega, ?_⟩
    rw [lmP]
    split
    · exact getD_mem (by omega)
    · rename_i hc
      rcases lmP_mem h8 (n := n) (by omega) with ⟨_, e⟩ | ⟨_, e⟩
      · exact absurd (Or.inl e) hc
      · exact e
/-- SHIFTED -/
def shP : Nat → BS → (Nat → Nat) → Nat → BS
  | 0, S, _, _ => S
  | n + 1, S, b, p => if p < 8 ∧ b p < 24 then shP n (up S 12 (b p) 0 p) b (S 12 (b p) 0) else S
def dnP : Nat → BS → (Nat → Nat) → Nat → Prop
  | 0, _, b, p => ¬ (p < 8 ∧ b p < 24)
  | n + 1, S, b, p => ¬ (p < 8 ∧ b p < 24) ∨ dnP n (up S 12 (b p) 0 p) b (S 12 (b p) 0)
theorem shP_more : ∀ {n : Nat} {S : BS} {b : Nat → Nat} {p : Nat}, dnP n S b p → ∀ m, shP (n + m) S b p = shP n S b p
  | 0, S, b, p, h, m => by
    rw [shP]
    cases m with
    | zero => rfl
    | succ m => rw [Nat.zero_add, shP, if_neg h]
  | n + 1, S, b, p, h, m => by
    rw [show n + 1 + m = (n + m) + 1 by omega, shP, shP]
    split
    · rename_i hc
      rcases h with h | h
      · exact absurd hc h
      · exact shP_more h m
    · rfl
theorem dnP_mono {m : Nat} : ∀ {n : Nat} {S : BS} {b : Nat → Nat} {p : Nat}, dnP n S b p → dnP (n + m) S b p := by
  have mono : ∀ {n : Nat} {S : BS} {b : Nat → Nat} {p : Nat}, dnP n S b p → dnP (n + 1) S b p := by
    intro n
    induction n with
    | zero => intro S b p h; exact Or.inl h
    | succ n ihn =>
      intro S b p h
      rcases h with h | h
      · exact Or.inl h
      · exact Or.inr (ihn h)
  induction m with
  | zero => intro n S b p h; exact h
  | succ m ihm => intro n S b p h; exact mono (ihm h)
theorem shP_8 : ∀ (n : Nat) (S : BS) (b : Nat → Nat), shP n S b 8 = S
  | 0, S, b => rfl
  | n + 1, S, b => by rw [shP, if_neg (fun z => absurd z.1 (by omega))]
theorem dnP_8 (S : BS) (b : Nat → Nat) : dnP 0 S b 8 := fun z => absurd z.1 (by omega)
/-- holders as they were, of the DUTIES by which the first were come to -/
def AG (S0 S : BS) (q : PS) (i : Nat) : Prop := ∀ j, j ≤ i → q.2 (q.1.getD j 0) < 24 → S 12 (q.2 (q.1.getD j 0)) 0 = S0 12 (q.2 (q.1.getD j 0)) 0
theorem AG_step {S0 S : BS} (hW : WF S0) {k : Nat} {o : Prop} {q : PS} (h : TR S0 k o q) {i : Nat} (hi : i < q.1.length) (hb : q.2 (q.1.getD i 0) < 24) (hag : AG S0 S q i) : (o ∧ S 12 (q.2 (q.1.getD i 0)) 0 = 8) ∨ ∃ j, j < i ∧ q.1.getD j 0 = S 12 (q.2 (q.1.getD i 0)) 0 ∧ AG S0 (up S 12 (q.2 (q.1.getD i 0)) 0 (q.1.getD i 0)) q j := by
  have hho := hag i (Nat.le_refl i) hb
  rw [hho]
  rcases h.2.2 i hi with ⟨a1, _⟩ | ⟨a1, a2, a3, a4⟩
  · omega
  · rcases a4 with a4 | ⟨j, hj, e⟩
    · exact Or.inl a4
    · refine Or.inr ⟨j, hj, e, fun j2 hj2 hlt => ?_⟩
      by_cases e3 : q.2 (q.1.getD j2 0) = q.2 (q.1.getD i 0)
      · exfalso
        rcases h.2.2 j2 (by omega) with ⟨b1, _⟩ | ⟨b1, b2, b3, b4⟩
        · omega
        · rw [e3] at b4
          rcases b4 with ⟨_, b4⟩ | ⟨j4, hj4, e4⟩
          · have := h.2.1 _ (getD_mem (show j < q.1.length by omega))
            rw [e, b4] at this
            have := hW.np
            omega
          · rw [← e] at e4
            have := (List.getElem_inj h.1 (i := j4) (j := j) (h₀ := by omega) (h₁ := by omega)).mp (by
              rw [List.getD_eq_getElem?_getD, List.getD_eq_getElem?_getD, List.getElem?_eq_getElem (by omega), List.getElem?_eq_getElem (by omega)] at e4
              exact e4)
            omega
      · rw [up_off (by omega)]
        exact hag j2 (by omega) hlt
theorem dnP_of {S0 : BS} (hW : WF S0) {k : Nat} {o : Prop} {q : PS} (h : TR S0 k o q) : ∀ {i : Nat} {S : BS}, i < q.1.length → AG S0 S q i → dnP (i + 1) S q.2 (q.1.getD i 0) := by
  intro i
  induction i using Nat.strongRecOn with
  | ind i ih =>
    intro S hi hag
    by_cases hc : q.1.getD i 0 < 8 ∧ q.2 (q.1.getD i 0) < 24
    · refine Or.inr ?_
      rcases AG_step hW h hi hc.2 hag with ⟨_, e8⟩ | ⟨j, hj, e, hag2⟩
      · rw [e8]
        have := dnP_mono (m := i) (dnP_8 (up S 12 (q.2 (q.1.getD i 0)) 0 (q.1.getD i 0)) q.2)
        rw [Nat.zero_add] at this
        exact this
      · rw [← e]
        have := dnP_mono (m := i - (j + 1)) (ih j hj (by omega) hag2)
        rw [show j + 1 + (i - (j + 1)) = i by omega] at this
        exact this
    · exact Or.inl hc
/-- the row of shifts from a place: as far as it goes -/
theorem shP_step {S0 S : BS} (hW : WF S0) {k : Nat} {o : Prop} {q : PS} (h : TR S0 k o q) {i : Nat} (hi : i < q.1.length) (hb : q.2 (q.1.getD i 0) < 24) (hag : AG S0 S q i) {j : Nat} (hj : j < i) (e : q.1.getD j 0 = S 12 (q.2 (q.1.getD i 0)) 0) (hag2 : AG S0 (up S 12 (q.2 (q.1.getD i 0)) 0 (q.1.getD i 0)) q j) : shP (i + 1) S q.2 (q.1.getD i 0) = shP (j + 1) (up S 12 (q.2 (q.1.getD i 0)) 0 (q.1.getD i 0)) q.2 (q.1.getD j 0) := by
  have h8 := h.2.1 _ (getD_mem hi)
  have := hW.np
  rw [shP, if_pos ⟨by omega, hb⟩, ← e]
  have := shP_more (dnP_of hW h (by omega) hag2) (i - (j + 1))
  rw [show j + 1 + (i - (j + 1)) = i by omega] at this
  exact this
/-! PATHS in the class -/
theorem g_ldc {m : Me} {d : Nat} {Q : Po} {pc : Nat} {ls : Lv} {st : St} {M : Mm} (v : Int32) {i : Nat} (hd : decode m.2.1 pc = .ok (.ldc i, 2)) (h : Cond.constant m.1.cls i v ∈ TB) (kk : Go m d Q (pc + 2) ls (.int v :: st) M) : Go m d Q pc ls (st) M := by
  intro p l e s mi args below meth c G sz hF hK hS hz H locs arr hP hD hFr hl
  exact lv_ldc hF.1 hF.2.1 hF.2.2.2.2.1 (hF.2.2.2.2.2.1 _ (List.mem_cons_of_mem _ h)) hd (kk p l e s mi args below meth c G sz hF hK hS hz H locs arr hP hD hFr hl)
def bv (d : Nat) : Int32 := if d = 24 then -1 else nI d
def PR (c : Int32) (ml bb is : Nat → Int32) (q : PS) : Prop := c = nI q.1.length ∧ q.1.length ≤ 8 ∧ (∀ i, i < q.1.length → ml i = nI (q.1.getD i 0)) ∧ (∀ p, p < 8 → is p = bI (decide (p ∈ q.1))) ∧ ∀ p ∈ q.1, bb p = bv (q.2 p)
theorem PR.meet {c : Int32} {ml bb is : Nat → Int32} {q : PS} (h : PR c ml bb is q) {p d : Nat} (hp : p ∉ q.1) (hp8 : p < 8) (hl : q.1.length < 8) : PR (nI (q.1.length + 1)) (upd ml q.1.length (nI p)) (upd bb p (bv d)) (upd is p (nI 1)) (meetP q p d) := by
  obtain ⟨h1, h2, h3, h4, h5⟩ := h
  unfold meetP
  rw [if_neg hp]
  refine ⟨by simp, by simp; omega, fun i hi => ?_, fun x hx => ?_, fun x hx => ?_⟩
  · simp only [List.length_append, List.length_singleton] at hi
    by_cases e : i = q.1.length
    · subst e; rw [upd_at, getD_last]
    · rw [upd_off e, getD_app (by omega)]; exact h3 i (by omega)
  · by_cases e : x = p
    · subst e; rw [upd_at]; simp [bI]
    · rw [upd_off e, h4 x hx]; simp [e]
  · by_cases e : x = p
    · subst e; rw [upd_at]; simp
    · have hx2 : x ∈ q.1 := by
        rcases List.mem_append.mp hx with z | z
        · exact z
        · exact absurd (List.mem_singleton.mp z) e
      rw [upd_off e, h5 x hx2]; simp [e]
abbrev PC (M : Mm) (q : PS) : Prop := PR (M 31 4) (M 32) (M 33) (M 34) q
theorem PR.eqO {c : Int32} {ml bb is : Nat → Int32} {q : PS} (h : PR c ml bb is q) {c' : Int32} {ml' bb' is' : Nat → Int32} (e1 : c' = c) (e2 : ml' = ml) (e3 : bb' = bb) (e4 : is' = is) : PR c' ml' bb' is' q := by rw [e1, e2, e3, e4]; exact h
theorem SH_forget {d : Nat} {M : Mm} {Q : Po} (h : ∀ M', EqO [31, 34] M M' → PC M' ([], fun _ => 24) → Q M' none) : Call (d + 1) mH_forget [.ref 31] M Q := by
  refine Call_of (m := mH_forget) [some (.ref 31), none] rfl (fun G => Nat.le_of_ble_eq_true rfl) (fun G => rfl) ?_
  refine g_aload_n dX4_forget_0 rfl ?_
  refine g_iconst (nI 0) dX4_forget_1 ki_0 ?_
  refine g_puti (j := 4) dX4_forget_2 gc4 rfl (by decide) rfl (by decide) fl_H_26 rfl (tyX4_ok 4 (by decide)) (by first | rfl | exact nar_bI _) rfl ?_
  refine g_iconst (nI 0) dX4_forget_5 ki_0 ?_
  refine g_ist2_1 dX4_forget_6 (by decide) rfl ?_
  refine loop_up (P := fun i => ∀ M', EqO [31, 34] M M' → M' 31 4 = nI 0 → (∀ p, p < i → M' 34 p = nI 0) → Go mH_forget (d + 1) Q 7 [some (.ref 31), some (.int (nI i))] [] M') 8 ?_ 0 (Nat.zero_le _) _ (EqO.set (by decide)) (by rw [mset_at]) (fun p hp => absurd hp (by omega))
  intro i hi ih M' hE h4 h34
  refine g_iload_n dX4_forget_7 rfl ?_
  refine g_bipush (nI 8) dX4_forget_8 kb_8 ?_
  refine g_icmp_ge_n 26 dX4_forget_10 (by decide) (by omega) (by omega) (fun c10 => ?_) (fun c10 => ?_)
  · refine g_return dX4_forget_26 rfl ?_
    exact h M' hE ⟨h4, by simp, fun i hi => by simp at hi, fun p hp => by rw [h34 p (by omega)]; simp [bI], fun p hp => by simp at hp⟩
  · refine g_aload_n dX4_forget_13 rfl ?_
    refine g_getr (j := 3) dX4_forget_14 gc4 rfl (by decide) rfl (by decide) fl_H_18 ?_
    refine g_iload_n dX4_forget_17 rfl ?_
    refine g_iconst (nI 0) dX4_forget_18 ki_0 ?_
    refine g_bast_n dX4_forget_19 rfl (by decide) (by decide) (by omega) (by first | rfl | exact vnar_bI _ | assumption) ?_
    first | refine g_incn2_1 dX4_forget_20 ki_1 (by decide) rfl ?_ | refine g_incg2_1 (nI 1) dX4_forget_20 ki_1 (by decide) rfl ?_
    refine g_goto 7 dX4_forget_23 (by decide) ?_
    refine ih (by omega) _ (hE.tr (EqO.set (by decide))) (by rw [mset_off (by omega)]; exact h4) (fun p hp => ?_)
    by_cases e : p = i
    · subst e; rw [mset_at]
    · rw [mset_off (by omega)]; exact h34 p (by omega)
theorem SH_meet {d : Nat} {M : Mm} {S : BS} {Q : Po} (hB : BK M S) {q : PS} (hq : PC M q) (hn : q.1.Nodup) (hb : ∀ x ∈ q.1, x < S 0 0 0) {p e : Nat} {x : Int32} (hp : p < S 0 0 0) (hx : x = bv e) (h : ∀ M', EqO [31, 32, 33, 34] M M' → PC M' (meetP q p e) → Q M' none) : Call (d + 2) mH_meet [.ref 31, .int (nI p), .int x] M Q := by
  have hw := hB.wf.np
  obtain ⟨q1, q2, q3, q4, q5⟩ := id hq
  have q4p := q4 p (by omega)
  refine Call_of (m := mH_meet) [some (.ref 31), some (.int (nI p)), some (.int x)] rfl (fun G => Nat.le_of_ble_eq_true rfl) (fun G => rfl) ?_
  refine g_aload_n dX4_meet_0 rfl ?_
  refine g_getr (j := 0) dX4_meet_1 gc4 rfl (by decide) rfl (by decide) fl_H_22 ?_
  refine g_iload_n dX4_meet_4 rfl ?_
  refine g_call1 dX4_meet_5 clB_isOne ml_H_94 gc0 rfl rfl (by decide) (Nat.le_of_ble_eq_true rfl) ?_
  refine SB_isOneT hB hp ?_
  refine g_if_eq_tt 36 dX4_meet_8 (by decide) ?_
  refine g_aload_n dX4_meet_11 rfl ?_
  refine g_getr (j := 3) dX4_meet_12 gc4 rfl (by decide) rfl (by decide) fl_H_18 ?_
  refine g_iload_n dX4_meet_15 rfl ?_
  refine g_bald_n dX4_meet_16 rfl (by decide) (by decide) (by omega) ?_
  try simp (disch := omega) only [q1, q4p]
  refine g_if_ne_b 36 dX4_meet_17 (by decide) (fun c17 => ?_) (fun c17 => ?_)
  · have hin : p ∈ q.1 := of_decide_eq_true c17
    refine g_return dX4_meet_36 rfl ?_
    have e1 : meetP q p e = q := if_pos hin
    exact h M EqO.rf (by rw [e1]; exact hq)
  · have hni : p ∉ q.1 := of_decide_eq_false c17
    have hlen : q.1.length < 8 := by
      have := nodup_len (n := S 0 0 0) (l := q.1 ++ [p]) (by
        rw [List.nodup_append]
        refine ⟨hn, by simp, fun a ha b hb2 e => ?_⟩
        rw [List.mem_singleton] at hb2
        subst hb2
        subst e
        exact hni ha) (fun z hz => by
        rcases List.mem_append.mp hz with y | y
        · exact hb z y
        · rw [List.mem_singleton.mp y]; exact hp)
      rw [List.length_append, List.length_singleton] at this
      omega
    refine g_aload_n dX4_meet_20 rfl ?_
    refine g_geti (j := 4) dX4_meet_21 gc4 rfl (by decide) rfl (by decide) fl_H_26 ?_
    try simp (disch := omega) only [q1, q4p]
    refine g_if_lt_n 36 dX4_meet_24 (by decide) (by omega) ?_
    refine g_aload_n dX4_meet_27 rfl ?_
    refine g_geti (j := 4) dX4_meet_28 gc4 rfl (by decide) rfl (by decide) fl_H_26 ?_
    try simp (disch := omega) only [q1, q4p]
    refine g_bipush (nI 8) dX4_meet_31 kb_8 ?_
    refine g_icmp_lt_n 37 dX4_meet_33 (by decide) (by omega) (by omega) (fun c33 => ?_) (fun c33 => ?_)
    · skip
      refine g_aload_n dX4_meet_37 rfl ?_
      refine g_getr (j := 3) dX4_meet_38 gc4 rfl (by decide) rfl (by decide) fl_H_18 ?_
      refine g_iload_n dX4_meet_41 rfl ?_
      refine g_iconst (nI 1) dX4_meet_42 ki_1 ?_
      refine g_bast_n dX4_meet_43 rfl (by decide) (by decide) (by omega) (by first | rfl | exact vnar_bI _ | assumption) ?_
      refine g_aload_n dX4_meet_44 rfl ?_
      refine g_getr (j := 2) dX4_meet_45 gc4 rfl (by decide) rfl (by decide) fl_H_15 ?_
      refine g_iload_n dX4_meet_48 rfl ?_
      refine g_iload_n dX4_meet_49 rfl ?_
      refine g_iast_n dX4_meet_50 (by first | rfl | assumption) (by first | decide | assumption) (by omega) (by omega) ?_
      refine g_aload_n dX4_meet_51 rfl ?_
      refine g_getr (j := 1) dX4_meet_52 gc4 rfl (by decide) rfl (by decide) fl_H_9 ?_
      refine g_aload_n dX4_meet_55 rfl ?_
      refine g_geti (j := 4) dX4_meet_56 gc4 rfl (by decide) rfl (by decide) fl_H_26 ?_
      try simp (disch := omega) only [q1, mset_off]
      refine g_iload_n dX4_meet_59 rfl ?_
      refine g_iast_n dX4_meet_60 (by first | rfl | assumption) (by first | decide | assumption) (by omega) (by omega) ?_
      refine g_aload_n dX4_meet_61 rfl ?_
      refine g_dup dX4_meet_62 rfl ?_
      refine g_geti (j := 4) dX4_meet_63 gc4 rfl (by decide) rfl (by decide) fl_H_26 ?_
      try simp (disch := omega) only [q1, mset_off]
      refine g_iconst (nI 1) dX4_meet_66 ki_1 ?_
      first | refine g_iadd_n dX4_meet_67 ?_ | refine g_iadd dX4_meet_67 ?_
      refine g_puti (j := 4) dX4_meet_68 gc4 rfl (by decide) rfl (by decide) fl_H_26 rfl (tyX4_ok 4 (by decide)) (by first | rfl | exact nar_bI _) rfl ?_
      refine g_return dX4_meet_71 rfl ?_
      refine h _ ?_ ?_
      · exact (EqO.set (by decide)).tr ((EqO.set (by decide)).tr ((EqO.set (by decide)).tr (EqO.set (by decide))))
      · refine (hq.meet (d := e) hni (by omega) hlen).eqO ?_ ?_ ?_ ?_
        · rw [mset_at]
        · rw [mset_ne (by decide), mset_row, mset_ne (by decide), mset_ne (by decide)]
        · rw [mset_ne (by decide), mset_ne (by decide), mset_row, mset_ne (by decide), hx]
        · rw [mset_ne (by decide), mset_ne (by decide), mset_ne (by decide), mset_row]
    · exact absurd hlen c33
/-! PATHS in the class: going on, the least, shifting -/
theorem SH_meetWho {d : Nat} {M : Mm} {S : BS} {Q : Po} (hB : BK M S) {k : Nat} {o : Prop} {q : PS} (hq : PC M q) (hT : TR S k o q) {e : Nat} (he : e < S 1 0 0) (hk : S 11 e 0 = k) (hb : (o ∧ S 12 e 0 = 8) ∨ S 12 e 0 ∈ q.1) (h : ∀ M', EqO [31, 32, 33, 34] M M' → PC M' (mwP S e (S 0 0 0) q) → Q M' none) : Call (d + 3) mH_meetWhoMayHold [.ref 31, .int (nI e)] M Q := by
  have hw := hB.wf.np
  have hw2 := hB.wf.nd
  refine Call_of (m := mH_meetWhoMayHold) [some (.ref 31), some (.int (nI e)), none] rfl (fun G => Nat.le_of_ble_eq_true rfl) (fun G => rfl) ?_
  refine g_iconst (nI 0) dX4_meetWhoMayHold_0 ki_0 ?_
  refine g_ist3_2 dX4_meetWhoMayHold_1 (by decide) rfl ?_
  refine loop_up (P := fun i => ∀ M', EqO [31, 32, 33, 34] M M' → PC M' (mwP S e i q) → Go mH_meetWhoMayHold (d + 3) Q 2 [some (.ref 31), some (.int (nI e)), some (.int (nI i))] [] M') (S 0 0 0) ?_ 0 (Nat.zero_le _) M EqO.rf hq
  intro i hi ih M' hE hq'
  have hB' := hB.eqO hE (by decide)
  obtain ⟨t1, t2⟩ := mwP_ok he hk hi hT hb
  refine g_iload_n dX4_meetWhoMayHold_2 rfl ?_
  refine g_aload_n dX4_meetWhoMayHold_3 rfl ?_
  refine g_getr (j := 0) dX4_meetWhoMayHold_4 gc4 rfl (by decide) rfl (by decide) fl_H_22 ?_
  refine g_geti (j := 0) dX4_meetWhoMayHold_7 gc0 rfl (by decide) rfl (by decide) fl_H_72 ?_
  try simp (disch := omega) only [hB'.np]
  refine g_icmp_ge_n 37 dX4_meetWhoMayHold_10 (by decide) (by omega) (by omega) (fun c10 => ?_) (fun c10 => ?_)
  · refine g_return dX4_meetWhoMayHold_37 rfl ?_
    rw [show i = S 0 0 0 by omega] at hq'
    exact h M' hE hq'
  · skip
    refine g_aload_n dX4_meetWhoMayHold_13 rfl ?_
    refine g_getr (j := 0) dX4_meetWhoMayHold_14 gc4 rfl (by decide) rfl (by decide) fl_H_22 ?_
    refine g_iload_n dX4_meetWhoMayHold_17 rfl ?_
    refine g_iload_n dX4_meetWhoMayHold_18 rfl ?_
    refine g_call2 dX4_meetWhoMayHold_19 clB_mayHold ml_H_90 gc0 rfl rfl (by decide) (Nat.le_of_ble_eq_true rfl) ?_
    refine SB_mayHold hB' (by omega) he ?_
    refine g_if_eq_b 31 dX4_meetWhoMayHold_22 (by decide) (fun c22 => ?_) (fun c22 => ?_)
    · first | refine g_incn3_2 dX4_meetWhoMayHold_31 ki_1 (by decide) rfl ?_ | refine g_incg3_2 (nI 1) dX4_meetWhoMayHold_31 ki_1 (by decide) rfl ?_
      refine g_goto 2 dX4_meetWhoMayHold_34 (by decide) ?_
      refine ih (by omega) M' hE ?_
      rw [mwP, if_neg (by rw [c22]; decide)]; exact hq'
    · refine g_aload_n dX4_meetWhoMayHold_25 rfl ?_
      refine g_iload_n dX4_meetWhoMayHold_26 rfl ?_
      refine g_iload_n dX4_meetWhoMayHold_27 rfl ?_
      refine g_call2 dX4_meetWhoMayHold_28 clH_meet ml_H_82 gc4 rfl rfl (by decide) (Nat.le_of_ble_eq_true rfl) ?_
      refine SH_meet hB' hq' t1.1 t1.2.1 (e := e) (by omega) (by unfold bv; rw [if_neg (by omega)]) (fun M2 hE2 hq2 => ?_)
      first | refine g_incn3_2 dX4_meetWhoMayHold_31 ki_1 (by decide) rfl ?_ | refine g_incg3_2 (nI 1) dX4_meetWhoMayHold_31 ki_1 (by decide) rfl ?_
      refine g_goto 2 dX4_meetWhoMayHold_34 (by decide) ?_
      refine ih (by omega) M2 (hE.tr hE2) ?_
      rw [mwP, if_pos c22]; exact hq2
theorem SH_goOn {d : Nat} {M : Mm} {S : BS} {Q : Po} (hB : BK M S) {k : Nat} (hk4 : k < 4) {o : Prop} {q : PS} (hq : PC M q) (hT : TR S k o q) (h : ∀ M', EqO [31, 32, 33, 34] M M' → PC M' (gsP S k 8 0 q) → Q M' none) : Call (d + 4) mH_goOn [.ref 31, .int (nI k)] M Q := by
  have hw := hB.wf.np
  have hw2 := hB.wf.nd
  refine Call_of (m := mH_goOn) [some (.ref 31), some (.int (nI k)), none, none] rfl (fun G => Nat.le_of_ble_eq_true rfl) (fun G => rfl) ?_
  refine g_iconst (nI 0) dX4_goOn_0 ki_0 ?_
  refine g_ist4_2 dX4_goOn_1 (by decide) rfl ?_
  suffices hloop : ∀ f i, i + f = 8 → ∀ M' q', EqO [31, 32, 33, 34] M M' → PC M' q' → TR S k o q' → gsP S k f i q' = gsP S k 8 0 q → Go mH_goOn (d + 4) Q 2 [some (.ref 31), some (.int (nI k)), some (.int (nI i)), none] [] M' by
    exact hloop 8 0 rfl M q EqO.rf hq hT rfl
  intro f
  induction f with
  | zero =>
    intro i hif M' q' hE hq' hT' hg
    have e4 := hq'.1
    have hl := hT'.len hB.wf
    refine g_iload_n dX4_goOn_2 rfl ?_
    refine g_aload_n dX4_goOn_3 rfl ?_
    refine g_geti (j := 4) dX4_goOn_4 gc4 rfl (by decide) rfl (by decide) fl_H_26 ?_
    try simp (disch := omega) only [e4]
    refine g_icmp_ge_n 75 dX4_goOn_7 (by decide) (by omega) (by omega) (fun c7 => ?_) (fun c7 => ?_)
    · refine g_return dX4_goOn_75 rfl ?_
      refine h M' hE ?_
      rw [← hg]; exact hq'
    · exact absurd hl (by omega)
  | succ f ih =>
    intro i hif M' q' hE hq' hT' hg
    have hB' := hB.eqO hE (by decide)
    have e4 := hq'.1
    have hl := hT'.len hB.wf
    refine g_iload_n dX4_goOn_2 rfl ?_
    refine g_aload_n dX4_goOn_3 rfl ?_
    refine g_geti (j := 4) dX4_goOn_4 gc4 rfl (by decide) rfl (by decide) fl_H_26 ?_
    try simp (disch := omega) only [e4]
    refine g_icmp_ge_n 75 dX4_goOn_7 (by decide) (by omega) (by omega) (fun c7 => ?_) (fun c7 => ?_)
    · refine g_return dX4_goOn_75 rfl ?_
      refine h M' hE ?_
      rw [← hg, gsP, if_neg (by omega)]; exact hq'
    · refine g_iload_n dX4_goOn_10 rfl ?_
      refine g_bipush (nI 8) dX4_goOn_11 kb_8 ?_
      refine g_icmp_ge_n 75 dX4_goOn_13 (by decide) (by omega) (by omega) (fun c13 => ?_) (fun c13 => ?_)
      · exact absurd hw (by omega)
      · have hmi : q'.1.getD i 0 ∈ q'.1 := getD_mem (by omega)
        have hpi := hT'.2.1 _ hmi
        refine g_iconst (nI 0) dX4_goOn_16 ki_0 ?_
        refine g_ist4_3 dX4_goOn_17 (by decide) rfl ?_
        refine loop_up (P := fun n => ∀ M2, EqO [31, 32, 33, 34] M M2 → PC M2 (gdP S k (q'.1.getD i 0) n q') → Go mH_goOn (d + 4) Q 18 [some (.ref 31), some (.int (nI k)), some (.int (nI i)), some (.int (nI n))] [] M2) (S 1 0 0) ?_ 0 (Nat.zero_le _) M' hE hq'
        intro n hn nh M2 hE2 hq2
        have hB2 := hB.eqO hE2 (by decide)
        obtain ⟨t1, t2⟩ := gdP_ok (n := n) hn hT' hmi
        have e32 : M2 32 i = nI (q'.1.getD i 0) := by
          rw [hq2.2.2.1 i (by have := t2.1; omega), t2.2.1 i (by omega)]
        refine g_iload_n dX4_goOn_18 rfl ?_
        refine g_aload_n dX4_goOn_19 rfl ?_
        refine g_getr (j := 0) dX4_goOn_20 gc4 rfl (by decide) rfl (by decide) fl_H_22 ?_
        refine g_geti (j := 1) dX4_goOn_23 gc0 rfl (by decide) rfl (by decide) fl_H_36 ?_
        try simp (disch := omega) only [hB2.nd, e32]
        refine g_icmp_ge_n 69 dX4_goOn_26 (by decide) (by omega) (by omega) (fun c26 => ?_) (fun c26 => ?_)
        · first | refine g_incn4_2 dX4_goOn_69 ki_1 (by decide) rfl ?_ | refine g_incg4_2 (nI 1) dX4_goOn_69 ki_1 (by decide) rfl ?_
          refine g_goto 2 dX4_goOn_72 (by decide) ?_
          refine Go_sub [some (.ref 31), some (.int (nI k)), some (.int (nI (i + 1))), none] (by simp [subL]) (ih (i + 1) (by omega) M2 (gdP S k (q'.1.getD i 0) (S 1 0 0) q') hE2 ?_ ?_ ?_)
          · rw [show n = S 1 0 0 by omega] at hq2; exact hq2
          · rw [show n = S 1 0 0 by omega] at t1; exact t1
          · rw [← hg, gsP, if_pos (by omega)]
        · have hdk := hB.wf.dk (d := n) (by omega)
          refine g_aload_n dX4_goOn_29 rfl ?_
          refine g_getr (j := 0) dX4_goOn_30 gc4 rfl (by decide) rfl (by decide) fl_H_22 ?_
          refine g_iload_n dX4_goOn_33 rfl ?_
          refine g_call1 dX4_goOn_34 clB_kindOf ml_H_45 gc0 rfl rfl (by decide) (Nat.le_of_ble_eq_true rfl) ?_
          refine SB_kindOf hB2 (by omega) ?_
          refine g_iload_n dX4_goOn_37 rfl ?_
          refine g_icmp_ne_n 63 dX4_goOn_38 (by decide) (by omega) (by omega) (fun c38 => ?_) (fun c38 => ?_)
          · first | refine g_incn4_3 dX4_goOn_63 ki_1 (by decide) rfl ?_ | refine g_incg4_3 (nI 1) dX4_goOn_63 ki_1 (by decide) rfl ?_
            refine g_goto 18 dX4_goOn_66 (by decide) ?_
            refine nh (by omega) M2 hE2 ?_
            rw [gdP, if_neg (fun z => c38 z.1)]; exact hq2
          · skip
            refine g_aload_n dX4_goOn_41 rfl ?_
            refine g_getr (j := 0) dX4_goOn_42 gc4 rfl (by decide) rfl (by decide) fl_H_22 ?_
            refine g_iload_n dX4_goOn_45 rfl ?_
            refine g_call1 dX4_goOn_46 clB_holderOf ml_H_48 gc0 rfl rfl (by decide) (Nat.le_of_ble_eq_true rfl) ?_
            refine SB_holderOf hB2 (by omega) ?_
            refine g_aload_n dX4_goOn_49 rfl ?_
            refine g_getr (j := 1) dX4_goOn_50 gc4 rfl (by decide) rfl (by decide) fl_H_9 ?_
            refine g_iload_n dX4_goOn_53 rfl ?_
            refine g_iald_n dX4_goOn_54 (by first | rfl | assumption) (by first | decide | assumption) (by omega) (by omega) ?_
            try simp (disch := omega) only [hB2.nd, e32]
            refine g_icmp_ne 63 dX4_goOn_55 (by decide) (fun c55 => ?_) (fun c55 => ?_)
            · rw [hv_eq hdk.2.2 (by omega)] at c55
              first | refine g_incn4_3 dX4_goOn_63 ki_1 (by decide) rfl ?_ | refine g_incg4_3 (nI 1) dX4_goOn_63 ki_1 (by decide) rfl ?_
              refine g_goto 18 dX4_goOn_66 (by decide) ?_
              refine nh (by omega) M2 hE2 ?_
              rw [gdP, if_neg (fun z => c55 z.2)]; exact hq2
            · rw [hv_eq hdk.2.2 (by omega)] at c55
              refine g_aload_n dX4_goOn_58 rfl ?_
              refine g_iload_n dX4_goOn_59 rfl ?_
              refine g_call1 dX4_goOn_60 clH_meetWhoMayHold ml_H_54 gc4 rfl rfl (by decide) (Nat.le_of_ble_eq_true rfl) ?_
              refine SH_meetWho hB2 hq2 t1 (by omega) c38 (Or.inr (by rw [c55]; exact (t2.2.2 _ hmi).1)) (fun M3 hE3 hq3 => ?_)
              first | refine g_incn4_3 dX4_goOn_63 ki_1 (by decide) rfl ?_ | refine g_incg4_3 (nI 1) dX4_goOn_63 ki_1 (by decide) rfl ?_
              refine g_goto 18 dX4_goOn_66 (by decide) ?_
              refine nh (by omega) M3 (hE2.tr hE3) ?_
              rw [gdP, if_pos ⟨c38, c55⟩]; exact hq3
theorem SH_leastMet {d : Nat} {M : Mm} {S : BS} {Q : Po} (hB : BK M S) {k : Nat} (hk4 : k < 4) {q : PS} (hq : PC M q) (hb : ∀ x ∈ q.1, x < S 0 0 0) (h : Q M (some (.int (hv (lmP S k q.1 q.1.length))))) : Call (d + 5) mH_leastMet [.ref 31, .int (nI k)] M Q := by
  have hw := hB.wf.np
  have hw2 := hB.wf.nd
  obtain ⟨q1, q2, q3, q4, q5⟩ := id hq
  have hld : ∀ p, p < S 0 0 0 → loadN S p k ≤ 1025 := fun p hp => by
    have h1 := hB.wf.ps (p := p) (k := k) (by omega) hk4
    have h2 := headN_le S p k
    have h3 := heldF_le S (fun d => S 12 d 0) p k
    unfold loadN loadF
    omega
  refine Call_of (m := mH_leastMet) [some (.ref 31), some (.int (nI k)), none, none, none] rfl (fun G => Nat.le_of_ble_eq_true rfl) (fun G => rfl) ?_
  refine g_iconst ((-1)) dX4_leastMet_0 ki_m1 ?_
  refine g_ist5_2 dX4_leastMet_1 (by decide) rfl ?_
  refine g_iconst (nI 0) dX4_leastMet_2 ki_0 ?_
  refine g_ist5_3 dX4_leastMet_3 (by decide) rfl ?_
  refine loop_up (P := fun i => Go mH_leastMet (d + 5) Q 4 [some (.ref 31), some (.int (nI k)), some (.int (hv (lmP S k q.1 i))), some (.int (nI i)), none] [] M) q.1.length ?_ 0 (Nat.zero_le _)
  intro i hi ih
  refine g_iload_n dX4_leastMet_4 rfl ?_
  refine g_aload_n dX4_leastMet_5 rfl ?_
  refine g_geti (j := 4) dX4_leastMet_6 gc4 rfl (by decide) rfl (by decide) fl_H_26 ?_
  try simp (disch := omega) only [q1, q3]
  refine g_icmp_ge_n 62 dX4_leastMet_9 (by decide) (by omega) (by omega) (fun c9 => ?_) (fun c9 => ?_)
  · refine g_iload_n dX4_leastMet_62 rfl ?_
    refine g_ireturn dX4_leastMet_63 rfl (by first | rfl | exact nar_bI _) ?_
    rw [show i = q.1.length by omega]; exact h
  · refine g_iload_n dX4_leastMet_12 rfl ?_
    refine g_bipush (nI 8) dX4_leastMet_13 kb_8 ?_
    refine g_icmp_ge_n 62 dX4_leastMet_15 (by decide) (by omega) (by omega) (fun c15 => ?_) (fun c15 => ?_)
    · exact absurd q2 (by omega)
    · have hp := hb _ (getD_mem (show i < q.1.length by omega))
      have h8 : lmP S k q.1 i ≤ 8 := by
        rcases lmP_mem (S := S) (k := k) (l := q.1) (fun p hp => by have := hb p hp; omega) hi with ⟨_, e⟩ | ⟨_, e⟩
        · omega
        · have := hb _ e; omega
      refine g_aload_n dX4_leastMet_18 rfl ?_
      refine g_getr (j := 1) dX4_leastMet_19 gc4 rfl (by decide) rfl (by decide) fl_H_9 ?_
      refine g_iload_n dX4_leastMet_22 rfl ?_
      refine g_iald_n dX4_leastMet_23 (by first | rfl | assumption) (by first | decide | assumption) (by omega) (by omega) ?_
      try simp (disch := omega) only [q1, q3]
      refine g_ist5_4 dX4_leastMet_24 (by decide) rfl ?_
      refine g_iload_n dX4_leastMet_26 rfl ?_
      refine g_iconst ((-1)) dX4_leastMet_27 ki_m1 ?_
      refine g_icmp_eq 53 dX4_leastMet_28 (by decide) (fun c28 => ?_) (fun c28 => ?_)
      · rw [hv_open _ h8] at c28
        refine g_iload dX4_leastMet_53 rfl ?_
        refine g_ist5_2 dX4_leastMet_55 (by decide) rfl ?_
        first | refine g_incn5_3 dX4_leastMet_56 ki_1 (by decide) rfl ?_ | refine g_incg5_3 (nI 1) dX4_leastMet_56 ki_1 (by decide) rfl ?_
        refine g_goto 4 dX4_leastMet_59 (by decide) ?_
        rw [← hv_p (p := q.1.getD i 0) (by omega)]
        refine Go_sub [some (.ref 31), some (.int (nI k)), some (.int (hv (q.1.getD i 0))), some (.int (nI (i + 1))), none] (by simp [subL]) ?_
        have := ih (by omega)
        rw [lmP, if_pos (Or.inl c28)] at this
        exact this
      · rw [hv_open _ h8] at c28
        have hbest : lmP S k q.1 i < S 0 0 0 := by
          rcases lmP_mem (S := S) (k := k) (l := q.1) (fun p hp => by have := hb p hp; omega) hi with ⟨_, e⟩ | ⟨_, e⟩
          · omega
          · exact hb _ e
        have hl1 := hld _ hp
        have hl2 := hld _ hbest
        rw [hv_p (p := lmP S k q.1 i) (by omega)]
        refine g_aload_n dX4_leastMet_31 rfl ?_
        refine g_getr (j := 0) dX4_leastMet_32 gc4 rfl (by decide) rfl (by decide) fl_H_22 ?_
        refine g_iload dX4_leastMet_35 rfl ?_
        refine g_iload_n dX4_leastMet_37 rfl ?_
        refine g_call2 dX4_leastMet_38 clB_loadOf ml_H_86 gc0 rfl rfl (by decide) (Nat.le_of_ble_eq_true rfl) ?_
        refine SB_loadOf hB hp hk4 ?_
        refine g_aload_n dX4_leastMet_41 rfl ?_
        refine g_getr (j := 0) dX4_leastMet_42 gc4 rfl (by decide) rfl (by decide) fl_H_22 ?_
        refine g_iload_n dX4_leastMet_45 rfl ?_
        refine g_iload_n dX4_leastMet_46 rfl ?_
        refine g_call2 dX4_leastMet_47 clB_loadOf ml_H_86 gc0 rfl rfl (by decide) (Nat.le_of_ble_eq_true rfl) ?_
        refine SB_loadOf hB hbest hk4 ?_
        refine g_icmp_ge_n 56 dX4_leastMet_50 (by decide) (by omega) (by omega) (fun c50 => ?_) (fun c50 => ?_)
        · first | refine g_incn5_3 dX4_leastMet_56 ki_1 (by decide) rfl ?_ | refine g_incg5_3 (nI 1) dX4_leastMet_56 ki_1 (by decide) rfl ?_
          refine g_goto 4 dX4_leastMet_59 (by decide) ?_
          refine Go_sub [some (.ref 31), some (.int (nI k)), some (.int (nI (lmP S k q.1 i))), some (.int (nI (i + 1))), none] (by simp [subL]) ?_
          have := ih (by omega)
          rw [lmP, if_neg (by omega), hv_p (p := lmP S k q.1 i) (by omega)] at this
          exact this
        · refine g_iload dX4_leastMet_53 rfl ?_
          refine g_ist5_2 dX4_leastMet_55 (by decide) rfl ?_
          first | refine g_incn5_3 dX4_leastMet_56 ki_1 (by decide) rfl ?_ | refine g_incg5_3 (nI 1) dX4_leastMet_56 ki_1 (by decide) rfl ?_
          refine g_goto 4 dX4_leastMet_59 (by decide) ?_
          refine Go_sub [some (.ref 31), some (.int (nI k)), some (.int (nI (q.1.getD i 0))), some (.int (nI (i + 1))), none] (by simp [subL]) ?_
          have := ih (by omega)
          rw [lmP, if_pos (Or.inr (by omega)), hv_p (p := q.1.getD i 0) (by omega)] at this
          exact this
theorem shP_ho : ∀ {n : Nat} {S : BS} {b : Nat → Nat} {p a : Nat}, a ≠ 12 → shP n S b p a = S a
  | 0, S, b, p, a, _ => rfl
  | n + 1, S, b, p, a, h => by
    rw [shP]
    split
    · rw [shP_ho h]; funext x y; exact up_off (fun z => h z.1)
    · rfl
theorem shP_ho8 : ∀ {n : Nat} {S : BS} {b : Nat → Nat} {p : Nat}, (∀ d, d < 24 → S 12 d 0 ≤ 8) → p ≤ 8 → ∀ d, d < 24 → (shP n S b p) 12 d 0 ≤ 8
  | 0, S, b, p, h, _, d, hd => h d hd
  | n + 1, S, b, p, h, hp, d, hd => by
    rw [shP]
    split
    · rename_i hc
      refine shP_ho8 (fun e he => ?_) (h _ hc.2) d hd
      by_cases z : e = b p
      · subst z; rw [up_at]; exact hp
      · rw [up_off (by omega)]; exact h e he
    · exact h d hd
theorem SH_shiftTo {d : Nat} {M : Mm} {S : BS} {Q : Po} (hB : BK M S) {k : Nat} {o : Prop} {q : PS} (hq : PC M q) (hT : TR S k o q) {i : Nat} (hi : i < q.1.length) (h : ∀ M', EqO [2] M M' → BK M' (shP 8 S q.2 (q.1.getD i 0)) → Q M' none) : Call (d + 3) mH_shiftTo [.ref 31, .int (nI (q.1.getD i 0))] M Q := by
  have hw := hB.wf.np
  have hw2 := hB.wf.nd
  have hl := hT.len hB.wf
  obtain ⟨q1, q2, q3, q4, q5⟩ := id hq
  have hag0 : AG S S q i := fun j hj hlt => rfl
  have hfin := shP_more (dnP_of hB.wf hT hi hag0) (8 - (i + 1))
  rw [show i + 1 + (8 - (i + 1)) = 8 by omega] at hfin
  rw [hfin] at h
  clear hfin
  refine Call_of (m := mH_shiftTo) [some (.ref 31), some (.int (nI (q.1.getD i 0))), none, none, none, none] rfl (fun G => Nat.le_of_ble_eq_true rfl) (fun G => rfl) ?_
  refine g_iload_n dX4_shiftTo_0 rfl ?_
  refine g_ist6_2 dX4_shiftTo_1 (by decide) rfl ?_
  refine g_iconst (nI 0) dX4_shiftTo_2 ki_0 ?_
  refine g_ist6_3 dX4_shiftTo_3 (by decide) rfl ?_
  have hend : ∀ (M' : Mm) (S' : BS) (s : Nat) (a : Int32), s < 8 → BK M' S' → (∀ b, b ≠ 12 → S' b = S b) → Q M' none → Go mH_shiftTo (d + 3) Q 4 [some (.ref 31), some (.int a), some (.int (-1)), some (.int (nI s)), none, none] [] M' := by
    intro M' S' s a hs hB' hS' hQ
    refine g_iload_n dX4_shiftTo_4 rfl ?_
    refine g_bipush (nI 8) dX4_shiftTo_5 kb_8 ?_
    refine g_icmp_ge_n 72 dX4_shiftTo_7 (by decide) (by omega) (by omega) (fun c7 => ?_) (fun c7 => ?_)
    · exact absurd hs (by omega)
    · refine g_aload_n dX4_shiftTo_10 rfl ?_
      refine g_getr (j := 0) dX4_shiftTo_11 gc4 rfl (by decide) rfl (by decide) fl_H_22 ?_
      refine g_iload_n dX4_shiftTo_14 rfl ?_
      refine g_call1 dX4_shiftTo_15 clB_isOne ml_H_94 gc0 rfl rfl (by decide) (Nat.le_of_ble_eq_true rfl) ?_
      refine SB_isOne hB' _ ?_
      rw [inR_m1]
      refine g_if_eq_ff 72 dX4_shiftTo_18 (by decide) ?_
      refine g_return dX4_shiftTo_72 rfl ?_
      exact hQ
  suffices hloop : ∀ (i : Nat) (M' : Mm) (S' : BS) (s : Nat) (a : Int32), i < q.1.length → s + i + 1 ≤ 8 → EqO [2] M M' → BK M' S' → (∀ b, b ≠ 12 → S' b = S b) → AG S S' q i → (∀ M2, EqO [2] M' M2 → BK M2 (shP (i + 1) S' q.2 (q.1.getD i 0)) → Q M2 none) → Go mH_shiftTo (d + 3) Q 4 [some (.ref 31), some (.int a), some (.int (nI (q.1.getD i 0))), some (.int (nI s)), none, none] [] M' by
    exact hloop i M S 0 _ hi (by omega) EqO.rf hB (fun _ _ => rfl) hag0 h
  intro i
  induction i using Nat.strongRecOn with
  | ind i ih =>
    intro M' S' s a hi hsi hE hB' hS' hag hQ
    have hp := hT.2.1 _ (getD_mem hi)
    have e0 : S' 0 0 0 = S 0 0 0 := by rw [hS' 0 (by decide)]
    have e1 : S' 1 0 0 = S 1 0 0 := by rw [hS' 1 (by decide)]
    have e33 : M' 33 (q.1.getD i 0) = bv (q.2 (q.1.getD i 0)) := by rw [hE 33 (by decide)]; exact q5 _ (getD_mem hi)
    refine g_iload_n dX4_shiftTo_4 rfl ?_
    refine g_bipush (nI 8) dX4_shiftTo_5 kb_8 ?_
    refine g_icmp_ge_n 72 dX4_shiftTo_7 (by decide) (by omega) (by omega) (fun c7 => ?_) (fun c7 => ?_)
    · exact absurd hsi (by omega)
    · skip
      refine g_aload_n dX4_shiftTo_10 rfl ?_
      refine g_getr (j := 0) dX4_shiftTo_11 gc4 rfl (by decide) rfl (by decide) fl_H_22 ?_
      refine g_iload_n dX4_shiftTo_14 rfl ?_
      refine g_call1 dX4_shiftTo_15 clB_isOne ml_H_94 gc0 rfl rfl (by decide) (Nat.le_of_ble_eq_true rfl) ?_
      refine SB_isOneT hB' (by rw [e0]; exact hp) ?_
      refine g_if_eq_tt 72 dX4_shiftTo_18 (by decide) ?_
      refine g_aload_n dX4_shiftTo_21 rfl ?_
      refine g_getr (j := 2) dX4_shiftTo_22 gc4 rfl (by decide) rfl (by decide) fl_H_15 ?_
      refine g_iload_n dX4_shiftTo_25 rfl ?_
      refine g_iald_n dX4_shiftTo_26 (by first | rfl | assumption) (by first | decide | assumption) (by omega) (by omega) ?_
      try simp (disch := omega) only [e33]
      refine g_ist6_4 dX4_shiftTo_27 (by decide) rfl ?_
      refine g_aload_n dX4_shiftTo_29 rfl ?_
      refine g_getr (j := 0) dX4_shiftTo_30 gc4 rfl (by decide) rfl (by decide) fl_H_22 ?_
      refine g_iload dX4_shiftTo_33 rfl ?_
      refine g_call1 dX4_shiftTo_35 clB_isDuty ml_H_97 gc0 rfl rfl (by decide) (Nat.le_of_ble_eq_true rfl) ?_
      refine SB_isDuty hB' _ ?_
      rcases hT.2.2 i hi with ⟨a1, a2, a3⟩ | ⟨a1, a2, a3, a4⟩
      · rw [a1, show bv 24 = -1 from rfl, inR_m1]
        refine g_if_ne_ff 42 dX4_shiftTo_38 (by decide) ?_
        refine g_return dX4_shiftTo_41 rfl ?_
        refine hQ M' EqO.rf ?_
        rw [shP, if_neg (fun z => by omega)]; exact hB'
      · have hlt : q.2 (q.1.getD i 0) < 24 := by omega
        rw [show bv (q.2 (q.1.getD i 0)) = nI (q.2 (q.1.getD i 0)) by unfold bv; rw [if_neg (by omega)], inR_nI (by omega), e1, decide_eq_true a1]
        refine g_if_ne_tt 42 dX4_shiftTo_38 (by decide) ?_
        refine g_aload_n dX4_shiftTo_42 rfl ?_
        refine g_getr (j := 0) dX4_shiftTo_43 gc4 rfl (by decide) rfl (by decide) fl_H_22 ?_
        refine g_iload dX4_shiftTo_46 rfl ?_
        refine g_call1 dX4_shiftTo_48 clB_holderOf ml_H_48 gc0 rfl rfl (by decide) (Nat.le_of_ble_eq_true rfl) ?_
        refine SB_holderOf hB' (by rw [e1]; exact a1) ?_
        refine g_ist6_5 dX4_shiftTo_51 (by decide) rfl ?_
        refine g_aload_n dX4_shiftTo_53 rfl ?_
        refine g_getr (j := 0) dX4_shiftTo_54 gc4 rfl (by decide) rfl (by decide) fl_H_22 ?_
        refine g_iload dX4_shiftTo_57 rfl ?_
        refine g_iload_n dX4_shiftTo_59 rfl ?_
        refine g_call2 dX4_shiftTo_60 clB_putHolder ml_H_100 gc0 rfl rfl (by decide) (Nat.le_of_ble_eq_true rfl) ?_
        refine SB_putHolder hB' (by rw [e1]; exact a1) ?_
        refine g_iload dX4_shiftTo_63 rfl ?_
        refine g_ist6_2 dX4_shiftTo_65 (by decide) rfl ?_
        first | refine g_incn6_3 dX4_shiftTo_66 ki_1 (by decide) rfl ?_ | refine g_incg6_3 (nI 1) dX4_shiftTo_66 ki_1 (by decide) rfl ?_
        refine g_goto 4 dX4_shiftTo_69 (by decide) ?_
        have hB2 := hB'.hol1 (e := q.2 (q.1.getD i 0)) (q := q.1.getD i 0) (by rw [e1]; exact a1) (by omega)
        rw [hv_p (p := q.1.getD i 0) (by omega)] at hB2
        have hS2 : ∀ b, b ≠ 12 → up S' 12 (q.2 (q.1.getD i 0)) 0 (q.1.getD i 0) b = S b := fun b hb => by
          rw [← hS' b hb]; funext y z; exact up_off (fun w => hb w.1)
        rcases AG_step hB.wf hT hi hlt hag with ⟨_, e8⟩ | ⟨j, hj, e, hag2⟩
        · rw [e8, hv_8]
          refine Go_sub [some (.ref 31), some (.int a), some (.int (-1)), some (.int (nI (s + 1))), none, none] (by simp [subL]) ?_
          rcases Nat.lt_or_ge (s + 1) 8 with y | y
          · refine hend _ _ _ _ y hB2 hS2 (hQ _ (EqO.set (by decide)) ?_)
            rw [shP, if_pos ⟨by omega, hlt⟩, e8, shP_8]; exact hB2
          · skip
            refine g_iload_n dX4_shiftTo_4 rfl ?_
            refine g_bipush (nI 8) dX4_shiftTo_5 kb_8 ?_
            refine g_icmp_ge_n 72 dX4_shiftTo_7 (by decide) (by omega) (by omega) (fun c7 => ?_) (fun c7 => ?_)
            · refine g_return dX4_shiftTo_72 rfl ?_
              refine hQ _ (EqO.set (by decide)) ?_
              rw [shP, if_pos ⟨by omega, hlt⟩, e8, shP_8]; exact hB2
            · exact absurd y (by omega)
        · rw [← e, hv_p (p := q.1.getD j 0) (by have := hT.2.1 _ (getD_mem (show j < q.1.length by omega)); omega)]
          refine Go_sub [some (.ref 31), some (.int a), some (.int (nI (q.1.getD j 0))), some (.int (nI (s + 1))), none, none] (by simp [subL]) ?_
          refine ih j hj _ _ _ _ (by omega) (by omega) (hE.tr (EqO.set (by decide))) hB2 hS2 hag2 (fun M2 hE2 hB3 => hQ M2 ((EqO.set (by decide)).tr hE2) ?_)
          rw [shP_step hB.wf hT hi hlt hag hj e hag2]; exact hB3
/-! FILLED and LESSER in the class -/
def e24 : Nat → Nat := fun _ => 24
/-- the path from an OPEN DUTY, and from one -/
def fpP (S : BS) (k d : Nat) : PS := gsP S k 8 0 (mwP S d (S 0 0 0) ([], fun _ => 24))
def lpP (S : BS) (k p : Nat) : PS := gsP S k 8 0 ([p], fun _ => 24)
def flP (S : BS) (k : Nat) : Nat → BS × Nat
  | 0 => (S, 0)
  | i + 1 => if S 11 (sd S i) 0 = k ∧ (flP S k i).1 12 (sd S i) 0 = 8 ∧ (fpP (flP S k i).1 k (sd S i)).1.length ≠ 0 then
      (shP 8 (flP S k i).1 (fpP (flP S k i).1 k (sd S i)).2 (lmP (flP S k i).1 k (fpP (flP S k i).1 k (sd S i)).1 (fpP (flP S k i).1 k (sd S i)).1.length), (flP S k i).2 + 1)
    else flP S k i
theorem flP_ho (S : BS) (k : Nat) : ∀ {i a : Nat}, a ≠ 12 → (flP S k i).1 a = S a
  | 0, a, _ => rfl
  | i + 1, a, h => by
    rw [flP]
    split
    · show shP 8 _ _ _ a = S a
      rw [shP_ho h]; exact flP_ho S k h
    · exact flP_ho S k h
theorem sd_ho {S T : BS} (h : ∀ a, a ≠ 12 → T a = S a) (i : Nat) : sd T i = sd S i := by
  simp only [sd, h 1 (by decide), h 10 (by decide)]
theorem WF.hoE {S T : BS} (h : ∀ a, a ≠ 12 → T a = S a) (hW : WF S) (h8 : ∀ d, d < 24 → T 12 d 0 ≤ 8) : WF T := by
  obtain ⟨b1, b2, b3, b4, b5, b6, b7, b8, b9, b10, b11⟩ := hW
  simp only [WF, h 0 (by decide), h 1 (by decide), h 3 (by decide), h 4 (by decide), h 5 (by decide), h 6 (by decide), h 7 (by decide), h 8 (by decide), h 9 (by decide), h 10 (by decide), h 11 (by decide), h 13 (by decide)]
  exact ⟨b1, b2, b3, b4, b5, b6, b7, b8, fun d hd => ⟨(b9 d hd).1, (b9 d hd).2.1, h8 d hd⟩, b10, b11⟩
theorem fpP_ok {S : BS} {k d : Nat} (hd : d < S 1 0 0) (hk : S 11 d 0 = k) (h8 : S 12 d 0 = 8) : TR S k True (fpP S k d) := by
  obtain ⟨h1, h2⟩ := mwP_ok hd hk (Nat.le_refl _) (TR.nil S k True) (Or.inl ⟨trivial, h8⟩)
  exact (gsP_ok h1).1
theorem lpP_ok {S : BS} {k p : Nat} (hp : p < S 0 0 0) : TR S k False (lpP S k p) ∧ exP ([p], fun _ => 24) (lpP S k p) := gsP_ok (TR.one S k hp)
theorem SH_fillKind {d : Nat} {M : Mm} {S : BS} {Q : Po} (hB : BK M S) {k : Nat} (hk : k < 4) (h : ∀ M', EqO [2, 31, 32, 33, 34] M M' → BK M' (flP S k (S 1 0 0)).1 → Q M' (some (.int (nI (flP S k (S 1 0 0)).2)))) : Call (d + 6) mH_fillKind [.ref 31, .int (nI k)] M Q := by
  have hw := hB.wf.np
  have hw2 := hB.wf.nd
  refine Call_of (m := mH_fillKind) [some (.ref 31), some (.int (nI k)), none, none, none] rfl (fun G => Nat.le_of_ble_eq_true rfl) (fun G => rfl) ?_
  refine g_iconst (nI 0) dX4_fillKind_0 ki_0 ?_
  refine g_ist5_2 dX4_fillKind_1 (by decide) rfl ?_
  refine g_iconst (nI 0) dX4_fillKind_2 ki_0 ?_
  refine g_ist5_3 dX4_fillKind_3 (by decide) rfl ?_
  refine loop_up (P := fun i => ∀ M', EqO [2, 31, 32, 33, 34] M M' → BK M' (flP S k i).1 → Go mH_fillKind (d + 6) Q 4 [some (.ref 31), some (.int (nI k)), some (.int (nI (flP S k i).2)), some (.int (nI i)), none] [] M') (S 1 0 0) ?_ 0 (Nat.zero_le _) M EqO.rf hB
  intro i hi ih M' hE hB'
  have eT : ∀ a, a ≠ 12 → (flP S k i).1 a = S a := fun a ha => flP_ho S k ha
  have e0 : (flP S k i).1 0 0 0 = S 0 0 0 := by rw [eT 0 (by decide)]
  have e1 : (flP S k i).1 1 0 0 = S 1 0 0 := by rw [eT 1 (by decide)]
  refine g_iload_n dX4_fillKind_4 rfl ?_
  refine g_aload_n dX4_fillKind_5 rfl ?_
  refine g_getr (j := 0) dX4_fillKind_6 gc4 rfl (by decide) rfl (by decide) fl_H_22 ?_
  refine g_geti (j := 1) dX4_fillKind_9 gc0 rfl (by decide) rfl (by decide) fl_H_36 ?_
  try simp (disch := omega) only [hB'.nd, e1]
  refine g_icmp_ge_n 97 dX4_fillKind_12 (by decide) (by omega) (by omega) (fun c12 => ?_) (fun c12 => ?_)
  · refine g_iload_n dX4_fillKind_97 rfl ?_
    refine g_ireturn dX4_fillKind_98 rfl (by first | rfl | exact nar_bI _) ?_
    rw [show i = S 1 0 0 by omega] at hB' ⊢
    exact h M' hE hB'
  · have hs := sd_lt (S := S) (k := i) (by omega)
    have hdk := hB'.wf.dk (d := sd S i) (by omega)
    have ek : (flP S k i).1 11 (sd S i) 0 = S 11 (sd S i) 0 := by rw [eT 11 (by decide)]
    rw [ek] at hdk
    refine g_aload_n dX4_fillKind_15 rfl ?_
    refine g_getr (j := 0) dX4_fillKind_16 gc4 rfl (by decide) rfl (by decide) fl_H_22 ?_
    refine g_iload_n dX4_fillKind_19 rfl ?_
    refine g_call1 dX4_fillKind_20 clB_dutyAt ml_H_41 gc0 rfl rfl (by decide) (Nat.le_of_ble_eq_true rfl) ?_
    refine SB_dutyAt hB' (by rw [e1]; omega) ?_
    rw [sd_ho eT]
    refine g_ist5_4 dX4_fillKind_23 (by decide) rfl ?_
    refine g_aload_n dX4_fillKind_25 rfl ?_
    refine g_getr (j := 0) dX4_fillKind_26 gc4 rfl (by decide) rfl (by decide) fl_H_22 ?_
    refine g_iload dX4_fillKind_29 rfl ?_
    refine g_call1 dX4_fillKind_31 clB_kindOf ml_H_45 gc0 rfl rfl (by decide) (Nat.le_of_ble_eq_true rfl) ?_
    refine SB_kindOf hB' (by rw [e1]; exact hs) ?_
    rw [ek]
    refine g_iload_n dX4_fillKind_34 rfl ?_
    refine g_icmp_ne_n 91 dX4_fillKind_35 (by decide) (by omega) (by omega) (fun c35 => ?_) (fun c35 => ?_)
    · first | refine g_incn5_3 dX4_fillKind_91 ki_1 (by decide) rfl ?_ | refine g_incg5_3 (nI 1) dX4_fillKind_91 ki_1 (by decide) rfl ?_
      refine g_goto 4 dX4_fillKind_94 (by decide) ?_
      refine Go_sub [some (.ref 31), some (.int (nI k)), some (.int (nI (flP S k i).2)), some (.int (nI (i + 1))), none] (by simp [subL]) ?_
      have := ih (by omega) M' hE
      rw [flP, if_neg (fun z => c35 z.1)] at this
      exact this hB'
    · refine g_aload_n dX4_fillKind_38 rfl ?_
      refine g_getr (j := 0) dX4_fillKind_39 gc4 rfl (by decide) rfl (by decide) fl_H_22 ?_
      refine g_iload dX4_fillKind_42 rfl ?_
      refine g_call1 dX4_fillKind_44 clB_holderOf ml_H_48 gc0 rfl rfl (by decide) (Nat.le_of_ble_eq_true rfl) ?_
      refine SB_holderOf hB' (by rw [e1]; exact hs) ?_
      refine g_iconst ((-1)) dX4_fillKind_47 ki_m1 ?_
      refine g_icmp_eq 54 dX4_fillKind_48 (by decide) (fun c48 => ?_) (fun c48 => ?_)
      · rw [hv_open _ hdk.2.2] at c48
        have hfp := fpP_ok (S := (flP S k i).1) (k := k) (d := sd S i) (by rw [e1]; exact hs) (by rw [ek]; exact c35) c48
        refine g_aload_n dX4_fillKind_54 rfl ?_
        refine g_call0 dX4_fillKind_55 clH_forget ml_H_51 gc4 rfl rfl (by decide) (Nat.le_of_ble_eq_true rfl) ?_
        refine SH_forget (fun M1 hE1 hq1 => ?_)
        have hB1 := hB'.eqO hE1 (by decide)
        refine g_aload_n dX4_fillKind_58 rfl ?_
        refine g_iload dX4_fillKind_59 rfl ?_
        refine g_call1 dX4_fillKind_61 clH_meetWhoMayHold ml_H_54 gc4 rfl rfl (by decide) (Nat.le_of_ble_eq_true rfl) ?_
        refine SH_meetWho hB1 hq1 (TR.nil _ k True) (by rw [e1]; exact hs) (by rw [ek]; exact c35) (Or.inl ⟨trivial, c48⟩) (fun M2 hE2 hq2 => ?_)
        have hB2 := hB1.eqO hE2 (by decide)
        obtain ⟨t1, t2⟩ := mwP_ok (S := (flP S k i).1) (d := sd S i) (by rw [e1]; exact hs) (by rw [ek]; exact c35) (Nat.le_refl _) (TR.nil _ k True) (Or.inl ⟨trivial, c48⟩)
        refine g_aload_n dX4_fillKind_64 rfl ?_
        refine g_iload_n dX4_fillKind_65 rfl ?_
        refine g_call1 dX4_fillKind_66 clH_goOn ml_H_58 gc4 rfl rfl (by decide) (Nat.le_of_ble_eq_true rfl) ?_
        refine SH_goOn hB2 hk hq2 t1 (fun M3 hE3 hq3 => ?_)
        have hB3 := hB2.eqO hE3 (by decide)
        have hq3' : PC M3 (fpP (flP S k i).1 k (sd S i)) := hq3
        have e4 := hq3'.1
        have hlen := hfp.len hB'.wf
        refine g_aload_n dX4_fillKind_69 rfl ?_
        refine g_geti (j := 4) dX4_fillKind_70 gc4 rfl (by decide) rfl (by decide) fl_H_26 ?_
        try simp (disch := omega) only [e4]
        refine g_if_ne_n 79 dX4_fillKind_73 (by decide) (by omega) (fun c73 => ?_) (fun c73 => ?_)
        · refine g_aload_n dX4_fillKind_79 rfl ?_
          refine g_aload_n dX4_fillKind_80 rfl ?_
          refine g_iload_n dX4_fillKind_81 rfl ?_
          refine g_call1 dX4_fillKind_82 clH_leastMet ml_H_61 gc4 rfl rfl (by decide) (Nat.le_of_ble_eq_true rfl) ?_
          refine SH_leastMet hB3 hk hq3' hfp.2.1 ?_
          have hlm := lmP_mem (S := (flP S k i).1) (k := k) (l := (fpP (flP S k i).1 k (sd S i)).1) (fun p hp => by have := hfp.2.1 p hp; omega) (Nat.le_refl _)
          obtain ⟨_, hmem⟩ := hlm.resolve_left (fun z => c73 z.1)
          obtain ⟨j, hj, ej⟩ := getD_of_mem hmem
          have hlt := hfp.2.1 _ hmem
          rw [hv_p (by omega)]
          refine g_call1 dX4_fillKind_85 clH_shiftTo ml_H_64 gc4 rfl rfl (by decide) (Nat.le_of_ble_eq_true rfl) ?_
          rw [← ej]
          refine SH_shiftTo hB3 hq3' hfp hj (fun M4 hE4 hB4 => ?_)
          first | refine g_incn5_2 dX4_fillKind_88 ki_1 (by decide) rfl ?_ | refine g_incg5_2 (nI 1) dX4_fillKind_88 ki_1 (by decide) rfl ?_
          first | refine g_incn5_3 dX4_fillKind_91 ki_1 (by decide) rfl ?_ | refine g_incg5_3 (nI 1) dX4_fillKind_91 ki_1 (by decide) rfl ?_
          refine g_goto 4 dX4_fillKind_94 (by decide) ?_
          refine Go_sub [some (.ref 31), some (.int (nI k)), some (.int (nI ((flP S k i).2 + 1))), some (.int (nI (i + 1))), none] (by simp [subL]) ?_
          have := ih (by omega) M4 (hE.tr ((hE1.sub (by decide)).tr ((hE2.sub (by decide)).tr ((hE3.sub (by decide)).tr (hE4.sub (by decide))))))
          rw [flP, if_pos ⟨c35, c48, c73⟩, ← ej] at this
          exact this hB4
        · refine g_goto 91 dX4_fillKind_76 (by decide) ?_
          first | refine g_incn5_3 dX4_fillKind_91 ki_1 (by decide) rfl ?_ | refine g_incg5_3 (nI 1) dX4_fillKind_91 ki_1 (by decide) rfl ?_
          refine g_goto 4 dX4_fillKind_94 (by decide) ?_
          refine Go_sub [some (.ref 31), some (.int (nI k)), some (.int (nI (flP S k i).2)), some (.int (nI (i + 1))), none] (by simp [subL]) ?_
          have := ih (by omega) M3 (hE.tr ((hE1.sub (by decide)).tr ((hE2.sub (by decide)).tr (hE3.sub (by decide)))))
          rw [flP, if_neg (fun z => z.2.2 c73)] at this
          exact this hB3
      · rw [hv_open _ hdk.2.2] at c48
        refine g_goto 91 dX4_fillKind_51 (by decide) ?_
        first | refine g_incn5_3 dX4_fillKind_91 ki_1 (by decide) rfl ?_ | refine g_incg5_3 (nI 1) dX4_fillKind_91 ki_1 (by decide) rfl ?_
        refine g_goto 4 dX4_fillKind_94 (by decide) ?_
        refine Go_sub [some (.ref 31), some (.int (nI k)), some (.int (nI (flP S k i).2)), some (.int (nI (i + 1))), none] (by simp [subL]) ?_
        have := ih (by omega) M' hE
        rw [flP, if_neg (fun z => c48 z.2.1)] at this
        exact this hB'
/-- LESSER from one: whether, and to whom -/
def ltP (S : BS) (k p : Nat) : Nat := lmP S k (lpP S k p).1 (lpP S k p).1.length
def lcP (S : BS) (k p : Nat) : Bool := decide (heldN S p k ≠ 0 ∧ loadN S (ltP S k p) k + 2 ≤ loadN S p k)
def fstN (f : Nat → Bool) : Nat → Nat
  | 0 => 0
  | n + 1 => if fstN f n < n then fstN f n else if f n = true then n else n + 1
theorem fstN_le (f : Nat → Bool) : ∀ n, fstN f n ≤ n
  | 0 => Nat.le_refl 0
  | n + 1 => by
    have := fstN_le f n
    rw [fstN]
    split
    · omega
    · split <;> omega
theorem fstN_eq {f : Nat → Bool} {i : Nat} (h : ∀ j, j < i → f j = false) : ∀ {n : Nat}, n ≤ i → fstN f n = n
  | 0, _ => rfl
  | n + 1, hn => by
    rw [fstN, fstN_eq h (n := n) (by omega), if_neg (by omega), if_neg (by rw [h n (by omega)]; decide)]
theorem fstN_hit {f : Nat → Bool} {i : Nat} (h : ∀ j, j < i → f j = false) (hi : f i = true) : ∀ {n : Nat}, i < n → fstN f n = i
  | 0, hn => by omega
  | n + 1, hn => by
    rcases Nat.lt_or_ge i n with q | q
    · rw [fstN, fstN_hit h hi (n := n) q, if_pos q]
    · have : n = i := by omega
      subst this
      rw [fstN, fstN_eq h (Nat.le_refl _), if_neg (by omega), if_pos hi]
theorem ltP_ok {S : BS} (hW : WF S) {k p : Nat} (hp : p < S 0 0 0) : ∃ i, i < (lpP S k p).1.length ∧ (lpP S k p).1.getD i 0 = ltP S k p := by
  obtain ⟨h1, h2⟩ := lpP_ok (S := S) (k := k) hp
  have hw := hW.np
  have hl : 0 < (lpP S k p).1.length := by have := h2.1; simp at this; omega
  have hlm := lmP_mem (S := S) (k := k) (l := (lpP S k p).1) (fun p hp => by have := h1.2.1 p hp; omega) (Nat.le_refl _)
  obtain ⟨_, hmem⟩ := hlm.resolve_left (fun z => by omega)
  exact getD_of_mem hmem
theorem load_le {S : BS} (hW : WF S) {k p : Nat} (hk : k < 4) (hp : p < S 0 0 0) : loadN S p k ≤ 1025 := by
  have hw := hW.np
  have hw2 := hW.nd
  have h1 := hW.ps (p := p) (k := k) (by omega) hk
  have h2 := headN_le S p k
  have h3 := heldF_le S (fun d => S 12 d 0) p k
  unfold loadN loadF
  omega
theorem SH_findLesser {d : Nat} {M : Mm} {S : BS} {Q : Po} (hB : BK M S) {k : Nat} (hk : k < 4) (hno : ∀ M', EqO [31, 32, 33, 34] M M' → (∀ j, j < S 0 0 0 → lcP S k j = false) → M' 31 5 = -5 → M' 31 6 = -5 → Q M' (some (.int (bI false))))
    (hyes : ∀ M' p, EqO [31, 32, 33, 34] M M' → p < S 0 0 0 → (∀ j, j < p → lcP S k j = false) → lcP S k p = true → M' 31 5 = nI p → M' 31 6 = nI (ltP S k p) → PC M' (lpP S k p) → Q M' (some (.int (bI true)))) : Call (d + 6) mH_findLesser [.ref 31, .int (nI k)] M Q := by
  have hw := hB.wf.np
  have hw2 := hB.wf.nd
  refine Call_of (m := mH_findLesser) [some (.ref 31), some (.int (nI k)), none, none] rfl (fun G => Nat.le_of_ble_eq_true rfl) (fun G => rfl) ?_
  refine g_iconst (nI 0) dX4_findLesser_0 ki_0 ?_
  refine g_ist4_2 dX4_findLesser_1 (by decide) rfl ?_
  refine loop_up (P := fun i => ∀ M', EqO [31, 32, 33, 34] M M' → (∀ j, j < i → lcP S k j = false) → Go mH_findLesser (d + 6) Q 2 [some (.ref 31), some (.int (nI k)), some (.int (nI i)), none] [] M') (S 0 0 0) ?_ 0 (Nat.zero_le _) M EqO.rf (fun j hj => absurd hj (by omega))
  intro i hi ih M' hE hlo
  have hB' := hB.eqO hE (by decide)
  refine g_iload_n dX4_findLesser_2 rfl ?_
  refine g_aload_n dX4_findLesser_3 rfl ?_
  refine g_getr (j := 0) dX4_findLesser_4 gc4 rfl (by decide) rfl (by decide) fl_H_22 ?_
  refine g_geti (j := 0) dX4_findLesser_7 gc0 rfl (by decide) rfl (by decide) fl_H_72 ?_
  try simp (disch := omega) only [hB'.np]
  refine g_icmp_ge_n 100 dX4_findLesser_10 (by decide) (by omega) (by omega) (fun c10 => ?_) (fun c10 => ?_)
  · refine g_aload_n dX4_findLesser_100 rfl ?_
    refine g_bipush ((-5)) dX4_findLesser_101 kb_m5 ?_
    refine g_puti (j := 5) dX4_findLesser_103 gc4 rfl (by decide) rfl (by decide) fl_H_30 rfl (tyX4_ok 5 (by decide)) (by first | rfl | exact nar_bI _) rfl ?_
    refine g_aload_n dX4_findLesser_106 rfl ?_
    refine g_bipush ((-5)) dX4_findLesser_107 kb_m5 ?_
    refine g_puti (j := 6) dX4_findLesser_109 gc4 rfl (by decide) rfl (by decide) fl_H_33 rfl (tyX4_ok 6 (by decide)) (by first | rfl | exact nar_bI _) rfl ?_
    refine g_iconst (nI 0) dX4_findLesser_112 ki_0 ?_
    refine g_ireturn dX4_findLesser_113 rfl (by first | rfl | exact nar_bI _) ?_
    rw [show i = S 0 0 0 by omega] at hlo
    exact hno _ (hE.tr ((EqO.set (by decide)).tr (EqO.set (by decide)))) hlo (by rw [mset_off (by omega), mset_at]) (by rw [mset_at])
  · have hin : i < S 0 0 0 := by omega
    have hh24 := heldF_le S (fun d => S 12 d 0) i k
    have hh24' : heldN S i k ≤ 24 := by unfold heldN; omega
    refine g_aload_n dX4_findLesser_13 rfl ?_
    refine g_getr (j := 0) dX4_findLesser_14 gc4 rfl (by decide) rfl (by decide) fl_H_22 ?_
    refine g_aload_n dX4_findLesser_17 rfl ?_
    refine g_getr (j := 0) dX4_findLesser_18 gc4 rfl (by decide) rfl (by decide) fl_H_22 ?_
    refine g_getr (j := 3) dX4_findLesser_21 gc0 rfl (by decide) rfl (by decide) fl_H_75 ?_
    refine g_iload_n dX4_findLesser_24 rfl ?_
    refine g_iload_n dX4_findLesser_25 rfl ?_
    refine g_call3 dX4_findLesser_26 clB_countHeld ml_H_78 gc0 rfl rfl (by decide) (Nat.le_of_ble_eq_true rfl) ?_
    refine SB_countHeldP hB' (by omega) hk ?_
    refine g_if_ne_n 35 dX4_findLesser_29 (by decide) (by omega) (fun c29 => ?_) (fun c29 => ?_)
    · refine g_aload_n dX4_findLesser_35 rfl ?_
      refine g_call0 dX4_findLesser_36 clH_forget ml_H_51 gc4 rfl rfl (by decide) (Nat.le_of_ble_eq_true rfl) ?_
      refine SH_forget (fun M1 hE1 hq1 => ?_)
      have hB1 := hB'.eqO hE1 (by decide)
      refine g_aload_n dX4_findLesser_39 rfl ?_
      refine g_iload_n dX4_findLesser_40 rfl ?_
      refine g_iconst ((-1)) dX4_findLesser_41 ki_m1 ?_
      refine g_call2 dX4_findLesser_42 clH_meet ml_H_82 gc4 rfl rfl (by decide) (Nat.le_of_ble_eq_true rfl) ?_
      refine SH_meet hB1 hq1 (by simp) (fun x hx => by simp at hx) (e := 24) hin rfl (fun M2 hE2 hq2 => ?_)
      have hB2 := hB1.eqO hE2 (by decide)
      have em : meetP ([], fun _ => 24) i 24 = ([i], fun _ => 24) := by
        unfold meetP
        rw [if_neg (by simp)]
        refine Prod.ext (by simp) ?_
        funext x
        dsimp only
        split <;> rfl
      rw [em] at hq2
      refine g_aload_n dX4_findLesser_45 rfl ?_
      refine g_iload_n dX4_findLesser_46 rfl ?_
      refine g_call1 dX4_findLesser_47 clH_goOn ml_H_58 gc4 rfl rfl (by decide) (Nat.le_of_ble_eq_true rfl) ?_
      refine SH_goOn hB2 hk hq2 (TR.one S k hin) (fun M3 hE3 hq3 => ?_)
      have hB3 := hB2.eqO hE3 (by decide)
      have hq3' : PC M3 (lpP S k i) := hq3
      obtain ⟨t1, t2⟩ := lpP_ok (S := S) (k := k) hin
      obtain ⟨j, hj, ej⟩ := ltP_ok hB.wf (k := k) hin
      have hlt : ltP S k i < S 0 0 0 := by rw [← ej]; exact t1.2.1 _ (getD_mem hj)
      have hl1 := load_le hB.wf hk hin
      have hl2 := load_le hB.wf hk hlt
      refine g_aload_n dX4_findLesser_50 rfl ?_
      refine g_iload_n dX4_findLesser_51 rfl ?_
      refine g_call1 dX4_findLesser_52 clH_leastMet ml_H_61 gc4 rfl rfl (by decide) (Nat.le_of_ble_eq_true rfl) ?_
      refine SH_leastMet hB3 hk hq3' t1.2.1 ?_
      rw [show lmP S k (lpP S k i).1 (lpP S k i).1.length = ltP S k i from rfl, hv_p (by omega)]
      refine g_ist4_3 dX4_findLesser_55 (by decide) rfl ?_
      refine g_aload_n dX4_findLesser_56 rfl ?_
      refine g_getr (j := 0) dX4_findLesser_57 gc4 rfl (by decide) rfl (by decide) fl_H_22 ?_
      refine g_iload_n dX4_findLesser_60 rfl ?_
      refine g_iload_n dX4_findLesser_61 rfl ?_
      refine g_call2 dX4_findLesser_62 clB_loadOf ml_H_86 gc0 rfl rfl (by decide) (Nat.le_of_ble_eq_true rfl) ?_
      refine SB_loadOf hB3 hlt hk ?_
      refine g_aload_n dX4_findLesser_65 rfl ?_
      refine g_getr (j := 0) dX4_findLesser_66 gc4 rfl (by decide) rfl (by decide) fl_H_22 ?_
      refine g_iload_n dX4_findLesser_69 rfl ?_
      refine g_iload_n dX4_findLesser_70 rfl ?_
      refine g_call2 dX4_findLesser_71 clB_loadOf ml_H_86 gc0 rfl rfl (by decide) (Nat.le_of_ble_eq_true rfl) ?_
      refine SB_loadOf hB3 hin hk ?_
      have hE4 := hE.tr ((hE1.sub (by decide)).tr (hE2.tr hE3))
      refine g_iconst (nI 2) dX4_findLesser_74 ki_2 ?_
      rcases Nat.lt_or_ge (loadN S i k) 2 with z | z
      · refine g_isub dX4_findLesser_75 ?_
        have hneg : ¬ nI (loadN S (ltP S k i) k) ≤ nI (loadN S i k) - nI 2 := by
          rw [Int32.le_iff_toInt_le, nI_toInt (by omega), Int32.toInt_sub, nI_toInt (by omega), nI_toInt (by omega), Int.bmod_def]
          split <;> omega
        refine g_icmp_le 82 dX4_findLesser_76 (by decide) (fun c76 => ?_) (fun c76 => ?_)
        · exact absurd c76 hneg
        · refine g_goto 94 dX4_findLesser_79 (by decide) ?_
          first | refine g_incn4_2 dX4_findLesser_94 ki_1 (by decide) rfl ?_ | refine g_incg4_2 (nI 1) dX4_findLesser_94 ki_1 (by decide) rfl ?_
          refine g_goto 2 dX4_findLesser_97 (by decide) ?_
          refine Go_sub [some (.ref 31), some (.int (nI k)), some (.int (nI (i + 1))), none] (by simp [subL]) (ih (by omega) M3 hE4 (fun x hx => ?_))
          rcases Nat.lt_or_ge x i with y | y
          · exact hlo x y
          · rw [show x = i by omega]; exact decide_eq_false (by omega)
      · refine g_isub_n dX4_findLesser_75 (by omega) ?_
        refine g_icmp_le_n 82 dX4_findLesser_76 (by decide) (by omega) (by omega) (fun c76 => ?_) (fun c76 => ?_)
        · refine g_aload_n dX4_findLesser_82 rfl ?_
          refine g_iload_n dX4_findLesser_83 rfl ?_
          refine g_puti (j := 5) dX4_findLesser_84 gc4 rfl (by decide) rfl (by decide) fl_H_30 rfl (tyX4_ok 5 (by decide)) (by first | rfl | exact nar_bI _) rfl ?_
          refine g_aload_n dX4_findLesser_87 rfl ?_
          refine g_iload_n dX4_findLesser_88 rfl ?_
          refine g_puti (j := 6) dX4_findLesser_89 gc4 rfl (by decide) rfl (by decide) fl_H_33 rfl (tyX4_ok 6 (by decide)) (by first | rfl | exact nar_bI _) rfl ?_
          refine g_iconst (nI 1) dX4_findLesser_92 ki_1 ?_
          refine g_ireturn dX4_findLesser_93 rfl (by first | rfl | exact nar_bI _) ?_
          refine hyes _ i (hE4.tr ((EqO.set (by decide)).tr (EqO.set (by decide)))) hin hlo (decide_eq_true ⟨c29, by omega⟩) (by rw [mset_off (by omega), mset_at]) (by rw [mset_at]) (hq3'.eqO ?_ ?_ ?_ ?_)
          · rw [mset_off (by omega), mset_off (by omega)]
          · rw [mset_ne (by decide), mset_ne (by decide)]
          · rw [mset_ne (by decide), mset_ne (by decide)]
          · rw [mset_ne (by decide), mset_ne (by decide)]
        · refine g_goto 94 dX4_findLesser_79 (by decide) ?_
          first | refine g_incn4_2 dX4_findLesser_94 ki_1 (by decide) rfl ?_ | refine g_incg4_2 (nI 1) dX4_findLesser_94 ki_1 (by decide) rfl ?_
          refine g_goto 2 dX4_findLesser_97 (by decide) ?_
          refine Go_sub [some (.ref 31), some (.int (nI k)), some (.int (nI (i + 1))), none] (by simp [subL]) (ih (by omega) M3 hE4 (fun x hx => ?_))
          rcases Nat.lt_or_ge x i with y | y
          · exact hlo x y
          · rw [show x = i by omega]; exact decide_eq_false (by omega)
    · refine g_goto 94 dX4_findLesser_32 (by decide) ?_
      first | refine g_incn4_2 dX4_findLesser_94 ki_1 (by decide) rfl ?_ | refine g_incg4_2 (nI 1) dX4_findLesser_94 ki_1 (by decide) rfl ?_
      refine g_goto 2 dX4_findLesser_97 (by decide) ?_
      refine ih (by omega) M' hE (fun x hx => ?_)
      rcases Nat.lt_or_ge x i with y | y
      · exact hlo x y
      · rw [show x = i by omega]; exact decide_eq_false (fun z => z.1 c29)
/-! PATHS in the reference -/
def EqQ (L : List Nat) (M M' : Mm) : Prop := ∀ k j, k ∉ L → (k = 57 → j = 2 ∨ j = 19 ∨ j = 31) → M' k j = M k j
theorem EqQ.rf {L : List Nat} {M : Mm} : EqQ L M M := fun _ _ _ _ => rfl
theorem EqQ.tr {L : List Nat} {M M1 M2 : Mm} (h1 : EqQ L M M1) (h2 : EqQ L M1 M2) : EqQ L M M2 := fun k j hk hj => (h2 k j hk hj).trans (h1 k j hk hj)
theorem EqQ.sub {L L' : List Nat} {M M' : Mm} (h : EqQ L M M') (hs : ∀ k ∈ L, k ∈ L') : EqQ L' M M' := fun k j hk hj => h k j (fun e => hk (hs k e)) hj
theorem EqQ.ofO {L : List Nat} {M M' : Mm} (h : EqO L M M') : EqQ L M M' := fun k j hk _ => by rw [h k hk]
theorem EqQ.set {L : List Nat} {M : Mm} {k j : Nat} {v : Int32} (h : k ∈ L) : EqQ L M (mset M k j v) := EqQ.ofO (EqO.set h)
theorem EqQ.set57 {L : List Nat} {M : Mm} {j : Nat} {v : Int32} (h : j ≠ 2 ∧ j ≠ 19 ∧ j ≠ 31) : EqQ L M (mset M 57 j v) := fun k i _ hi => mset_off (fun e => by have := hi e.1; omega)
theorem EqQ.row {L : List Nat} {M M' : Mm} (h : EqQ L M M') {k : Nat} (hk : k ∉ L) (h57 : k ≠ 57) : M' k = M k := funext fun j => h k j hk (fun e => absurd e h57)
theorem FrM.ofQ {L : List Nat} {M M' : Mm} (h : EqQ L M M') (hL : ∀ k ∈ L, k ∈ LM) : FrM M M' := fun k j hk => by
  refine h k j (fun e => ?_) (fun e => ?_)
  · have := LM_in (hL k e)
    unfold okO at hk
    omega
  · subst e
    unfold okO at hk
    omega
theorem MK.eqQ {L : List Nat} {M M' : Mm} {S : BS} (h : MK (M 58) S) (hE : EqQ L M M') (hL : 58 ∉ L) : MK (M' 58) S := by rw [hE.row hL (by decide)]; exact h
abbrev PN (M : Mm) (q : PS) : Prop := PR (M 57 7) (M 63) (M 64) (M 65) q
theorem SM_begins {d : Nat} {M : Mm} {Q : Po} (h : ∀ M', EqQ [65] M M' → PN M' ([], fun _ => 24) → Q M' none) : Call (d + 1) mM_begins [.ref 57] M Q := by
  refine Call_of (m := mM_begins) [some (.ref 57), none] rfl (fun G => Nat.le_of_ble_eq_true rfl) (fun G => rfl) ?_
  refine g_aload_n dX10_begins_0 rfl ?_
  refine g_iconst (nI 0) dX10_begins_1 ki_0 ?_
  refine g_puti (j := 7) dX10_begins_2 gc10 rfl (by decide) rfl (by decide) fl_M_155 rfl (tyX10_ok 7 (by decide)) (by first | rfl | exact nar_bI _) rfl ?_
  refine g_iconst (nI 0) dX10_begins_5 ki_0 ?_
  refine g_ist2_1 dX10_begins_6 (by decide) rfl ?_
  refine loop_up (P := fun i => ∀ M', EqQ [65] M M' → M' 57 7 = nI 0 → (∀ p, p < i → M' 65 p = nI 0) → Go mM_begins (d + 1) Q 7 [some (.ref 57), some (.int (nI i))] [] M') 8 ?_ 0 (Nat.zero_le _) _ (EqQ.set57 (by decide)) (by rw [mset_at]) (fun p hp => absurd hp (by omega))
  intro i hi ih M' hE h4 h34
  refine g_iload_n dX10_begins_7 rfl ?_
  refine g_bipush (nI 8) dX10_begins_8 kb_8 ?_
  refine g_icmp_ge_n 26 dX10_begins_10 (by decide) (by omega) (by omega) (fun c10 => ?_) (fun c10 => ?_)
  · refine g_return dX10_begins_26 rfl ?_
    exact h M' hE ⟨h4, by simp, fun i hi => by simp at hi, fun p hp => by rw [h34 p (by omega)]; simp [bI], fun p hp => by simp at hp⟩
  · refine g_aload_n dX10_begins_13 rfl ?_
    refine g_getr (j := 9) dX10_begins_14 gc10 rfl (by decide) rfl (by decide) fl_M_31 ?_
    refine g_iload_n dX10_begins_17 rfl ?_
    refine g_iconst (nI 0) dX10_begins_18 ki_0 ?_
    refine g_bast_n dX10_begins_19 rfl (by decide) (by decide) (by omega) (by first | rfl | exact vnar_bI _ | assumption) ?_
    first | refine g_incn2_1 dX10_begins_20 ki_1 (by decide) rfl ?_ | refine g_incg2_1 (nI 1) dX10_begins_20 ki_1 (by decide) rfl ?_
    refine g_goto 7 dX10_begins_23 (by decide) ?_
    refine ih (by omega) _ (hE.tr (EqQ.set (by decide))) (by rw [mset_off (by omega)]; exact h4) (fun p hp => ?_)
    by_cases e : p = i
    · subst e; rw [mset_at]
    · rw [mset_off (by omega)]; exact h34 p (by omega)
theorem SM_comesBy {d : Nat} {M : Mm} {S : BS} {Q : Po} (hM : MK (M 58) S) {q : PS} (hq : PN M q) (hn : q.1.Nodup) (hb : ∀ x ∈ q.1, x < S 0 0 0) {p e : Nat} {x : Int32} (hp : p < S 0 0 0) (hx : x = bv e) (h : ∀ M', EqQ [63, 64, 65] M M' → PN M' (meetP q p e) → Q M' none) : Call (d + 1) mM_comesBy [.ref 57, .int (nI p), .int x] M Q := by
  have hw := hM.wf.np
  obtain ⟨q1, q2, q3, q4, q5⟩ := id hq
  have q4p := q4 p (by omega)
  refine Call_of (m := mM_comesBy) [some (.ref 57), some (.int (nI p)), some (.int x)] rfl (fun G => Nat.le_of_ble_eq_true rfl) (fun G => rfl) ?_
  refine g_aload_n dX10_comesBy_0 rfl ?_
  refine g_getr (j := 9) dX10_comesBy_1 gc10 rfl (by decide) rfl (by decide) fl_M_31 ?_
  refine g_iload_n dX10_comesBy_4 rfl ?_
  refine g_bald_n dX10_comesBy_5 rfl (by decide) (by decide) (by omega) ?_
  try simp (disch := omega) only [q1, q4p]
  refine g_if_ne_b 43 dX10_comesBy_6 (by decide) (fun c6 => ?_) (fun c6 => ?_)
  · have hin : p ∈ q.1 := of_decide_eq_true c6
    refine g_return dX10_comesBy_43 rfl ?_
    have e1 : meetP q p e = q := if_pos hin
    exact h M EqQ.rf (by rw [e1]; exact hq)
  · have hni : p ∉ q.1 := of_decide_eq_false c6
    have hlen : q.1.length < 8 := by
      have := nodup_len (n := S 0 0 0) (l := q.1 ++ [p]) (by
        rw [List.nodup_append]
        refine ⟨hn, by simp, fun a ha b hb2 e => ?_⟩
        rw [List.mem_singleton] at hb2
        subst hb2
        subst e
        exact hni ha) (fun z hz => by
        rcases List.mem_append.mp hz with y | y
        · exact hb z y
        · rw [List.mem_singleton.mp y]; exact hp)
      rw [List.length_append, List.length_singleton] at this
      omega
    skip
    refine g_aload_n dX10_comesBy_9 rfl ?_
    refine g_getr (j := 9) dX10_comesBy_10 gc10 rfl (by decide) rfl (by decide) fl_M_31 ?_
    refine g_iload_n dX10_comesBy_13 rfl ?_
    refine g_iconst (nI 1) dX10_comesBy_14 ki_1 ?_
    refine g_bast_n dX10_comesBy_15 rfl (by decide) (by decide) (by omega) (by first | rfl | exact vnar_bI _ | assumption) ?_
    refine g_aload_n dX10_comesBy_16 rfl ?_
    refine g_getr (j := 8) dX10_comesBy_17 gc10 rfl (by decide) rfl (by decide) fl_M_28 ?_
    refine g_iload_n dX10_comesBy_20 rfl ?_
    refine g_iload_n dX10_comesBy_21 rfl ?_
    refine g_iast_n dX10_comesBy_22 (by first | rfl | assumption) (by first | decide | assumption) (by omega) (by omega) ?_
    refine g_aload_n dX10_comesBy_23 rfl ?_
    refine g_getr (j := 6) dX10_comesBy_24 gc10 rfl (by decide) rfl (by decide) fl_M_25 ?_
    refine g_aload_n dX10_comesBy_27 rfl ?_
    refine g_geti (j := 7) dX10_comesBy_28 gc10 rfl (by decide) rfl (by decide) fl_M_155 ?_
    try simp (disch := omega) only [q1, mset_off]
    refine g_iload_n dX10_comesBy_31 rfl ?_
    refine g_iast_n dX10_comesBy_32 (by first | rfl | assumption) (by first | decide | assumption) (by omega) (by omega) ?_
    refine g_aload_n dX10_comesBy_33 rfl ?_
    refine g_dup dX10_comesBy_34 rfl ?_
    refine g_geti (j := 7) dX10_comesBy_35 gc10 rfl (by decide) rfl (by decide) fl_M_155 ?_
    try simp (disch := omega) only [q1, mset_off]
    refine g_iconst (nI 1) dX10_comesBy_38 ki_1 ?_
    first | refine g_iadd_n dX10_comesBy_39 ?_ | refine g_iadd dX10_comesBy_39 ?_
    refine g_puti (j := 7) dX10_comesBy_40 gc10 rfl (by decide) rfl (by decide) fl_M_155 rfl (tyX10_ok 7 (by decide)) (by first | rfl | exact nar_bI _) rfl ?_
    refine g_return dX10_comesBy_43 rfl ?_
    refine h _ ?_ ?_
    · exact (EqQ.set (by decide)).tr ((EqQ.set (by decide)).tr ((EqQ.set (by decide)).tr (EqQ.set57 (by decide))))
    · refine (hq.meet (d := e) hni (by omega) hlen).eqO ?_ ?_ ?_ ?_
      · rw [mset_at]
      · rw [mset_ne (by decide), mset_row, mset_ne (by decide), mset_ne (by decide)]
      · rw [mset_ne (by decide), mset_ne (by decide), mset_row, mset_ne (by decide), hx]
      · rw [mset_ne (by decide), mset_ne (by decide), mset_ne (by decide), mset_row]
theorem SM_goesFromDuty {d : Nat} {M : Mm} {S : BS} {Q : Po} (hM : MK (M 58) S) {k : Nat} {o : Prop} {q : PS} (hq : PN M q) (hT : TR S k o q) {e : Nat} (he : e < S 1 0 0) (hk : S 11 e 0 = k) (hb : (o ∧ S 12 e 0 = 8) ∨ S 12 e 0 ∈ q.1) (h : ∀ M', EqQ [63, 64, 65] M M' → PN M' (mwP S e (S 0 0 0) q) → Q M' none) : Call (d + 5) mM_goesFromDuty [.ref 57, .int (nI e)] M Q := by
  have hw := hM.wf.np
  have hw2 := hM.wf.nd
  refine Call_of (m := mM_goesFromDuty) [some (.ref 57), some (.int (nI e)), none] rfl (fun G => Nat.le_of_ble_eq_true rfl) (fun G => rfl) ?_
  refine g_iconst (nI 0) dX10_goesFromDuty_0 ki_0 ?_
  refine g_ist3_2 dX10_goesFromDuty_1 (by decide) rfl ?_
  refine loop_up (P := fun i => ∀ M', EqQ [63, 64, 65] M M' → PN M' (mwP S e i q) → Go mM_goesFromDuty (d + 5) Q 2 [some (.ref 57), some (.int (nI e)), some (.int (nI i))] [] M') (S 0 0 0) ?_ 0 (Nat.zero_le _) M EqQ.rf hq
  intro i hi ih M' hE hq'
  have hM' := hM.eqQ hE (by decide)
  obtain ⟨t1, t2⟩ := mwP_ok he hk hi hT hb
  refine g_iload_n dX10_goesFromDuty_2 rfl ?_
  refine g_aload_n dX10_goesFromDuty_3 rfl ?_
  refine g_getr (j := 0) dX10_goesFromDuty_4 gc10 rfl (by decide) rfl (by decide) fl_M_9 ?_
  refine g_iconst (nI 0) dX10_goesFromDuty_7 ki_0 ?_
  refine g_iald_n dX10_goesFromDuty_8 (by first | rfl | assumption) (by first | decide | assumption) (by omega) (by omega) ?_
  try simp (disch := omega) only [hM'.np]
  refine g_icmp_ge_n 33 dX10_goesFromDuty_9 (by decide) (by omega) (by omega) (fun c9 => ?_) (fun c9 => ?_)
  · refine g_return dX10_goesFromDuty_33 rfl ?_
    rw [show i = S 0 0 0 by omega] at hq'
    exact h M' hE hq'
  · skip
    refine g_aload_n dX10_goesFromDuty_12 rfl ?_
    refine g_iload_n dX10_goesFromDuty_13 rfl ?_
    refine g_iload_n dX10_goesFromDuty_14 rfl ?_
    refine g_call2 dX10_goesFromDuty_15 clM_mayHold ml_M_113 gc10 rfl rfl (by decide) (Nat.le_of_ble_eq_true rfl) ?_
    refine SM_mayHold hM' (by omega) he ?_
    refine g_if_eq_b 27 dX10_goesFromDuty_18 (by decide) (fun c18 => ?_) (fun c18 => ?_)
    · first | refine g_incn3_2 dX10_goesFromDuty_27 ki_1 (by decide) rfl ?_ | refine g_incg3_2 (nI 1) dX10_goesFromDuty_27 ki_1 (by decide) rfl ?_
      refine g_goto 2 dX10_goesFromDuty_30 (by decide) ?_
      refine ih (by omega) M' hE ?_
      rw [mwP, if_neg (by rw [c18]; decide)]; exact hq'
    · refine g_aload_n dX10_goesFromDuty_21 rfl ?_
      refine g_iload_n dX10_goesFromDuty_22 rfl ?_
      refine g_iload_n dX10_goesFromDuty_23 rfl ?_
      refine g_call2 dX10_goesFromDuty_24 clM_comesBy ml_M_159 gc10 rfl rfl (by decide) (Nat.le_of_ble_eq_true rfl) ?_
      refine SM_comesBy hM' hq' t1.1 t1.2.1 (e := e) (by omega) (by unfold bv; rw [if_neg (by omega)]) (fun M2 hE2 hq2 => ?_)
      first | refine g_incn3_2 dX10_goesFromDuty_27 ki_1 (by decide) rfl ?_ | refine g_incg3_2 (nI 1) dX10_goesFromDuty_27 ki_1 (by decide) rfl ?_
      refine g_goto 2 dX10_goesFromDuty_30 (by decide) ?_
      refine ih (by omega) M2 (hE.tr hE2) ?_
      rw [mwP, if_pos c18]; exact hq2
theorem SM_goesOn {d : Nat} {M : Mm} {S : BS} {Q : Po} (hM : MK (M 58) S) {k : Nat} (hk4 : k < 4) {o : Prop} {q : PS} (hq : PN M q) (hT : TR S k o q) (h : ∀ M', EqQ [63, 64, 65] M M' → PN M' (gsP S k 8 0 q) → Q M' none) : Call (d + 6) mM_goesOn [.ref 57, .int (nI k)] M Q := by
  have hw := hM.wf.np
  have hw2 := hM.wf.nd
  refine Call_of (m := mM_goesOn) [some (.ref 57), some (.int (nI k)), none, none] rfl (fun G => Nat.le_of_ble_eq_true rfl) (fun G => rfl) ?_
  refine g_iconst (nI 0) dX10_goesOn_0 ki_0 ?_
  refine g_ist4_2 dX10_goesOn_1 (by decide) rfl ?_
  suffices hloop : ∀ f i, i + f = 8 → ∀ M' q', EqQ [63, 64, 65] M M' → PN M' q' → TR S k o q' → gsP S k f i q' = gsP S k 8 0 q → Go mM_goesOn (d + 6) Q 2 [some (.ref 57), some (.int (nI k)), some (.int (nI i)), none] [] M' by
    exact hloop 8 0 rfl M q EqQ.rf hq hT rfl
  intro f
  induction f with
  | zero =>
    intro i hif M' q' hE hq' hT' hg
    have e4 := hq'.1
    have hl := hT'.len hM.wf
    refine g_iload_n dX10_goesOn_2 rfl ?_
    refine g_aload_n dX10_goesOn_3 rfl ?_
    refine g_geti (j := 7) dX10_goesOn_4 gc10 rfl (by decide) rfl (by decide) fl_M_155 ?_
    try simp (disch := omega) only [e4]
    refine g_icmp_ge_n 67 dX10_goesOn_7 (by decide) (by omega) (by omega) (fun c7 => ?_) (fun c7 => ?_)
    · refine g_return dX10_goesOn_67 rfl ?_
      refine h M' hE ?_
      rw [← hg]; exact hq'
    · exact absurd hl (by omega)
  | succ f ih =>
    intro i hif M' q' hE hq' hT' hg
    have hM' := hM.eqQ hE (by decide)
    have e4 := hq'.1
    have hl := hT'.len hM.wf
    refine g_iload_n dX10_goesOn_2 rfl ?_
    refine g_aload_n dX10_goesOn_3 rfl ?_
    refine g_geti (j := 7) dX10_goesOn_4 gc10 rfl (by decide) rfl (by decide) fl_M_155 ?_
    try simp (disch := omega) only [e4]
    refine g_icmp_ge_n 67 dX10_goesOn_7 (by decide) (by omega) (by omega) (fun c7 => ?_) (fun c7 => ?_)
    · refine g_return dX10_goesOn_67 rfl ?_
      refine h M' hE ?_
      rw [← hg, gsP, if_neg (by omega)]; exact hq'
    · have hmi : q'.1.getD i 0 ∈ q'.1 := getD_mem (by omega)
      have hpi := hT'.2.1 _ hmi
      refine g_iconst (nI 0) dX10_goesOn_10 ki_0 ?_
      refine g_ist4_3 dX10_goesOn_11 (by decide) rfl ?_
      refine loop_up (P := fun n => ∀ M2, EqQ [63, 64, 65] M M2 → PN M2 (gdP S k (q'.1.getD i 0) n q') → Go mM_goesOn (d + 6) Q 12 [some (.ref 57), some (.int (nI k)), some (.int (nI i)), some (.int (nI n))] [] M2) (S 1 0 0) ?_ 0 (Nat.zero_le _) M' hE hq'
      intro n hn nh M2 hE2 hq2
      have hM2 := hM.eqQ hE2 (by decide)
      obtain ⟨t1, t2⟩ := gdP_ok (n := n) hn hT' hmi
      have e32 : M2 63 i = nI (q'.1.getD i 0) := by
        rw [hq2.2.2.1 i (by have := t2.1; omega), t2.2.1 i (by omega)]
      refine g_iload_n dX10_goesOn_12 rfl ?_
      refine g_aload_n dX10_goesOn_13 rfl ?_
      refine g_getr (j := 0) dX10_goesOn_14 gc10 rfl (by decide) rfl (by decide) fl_M_9 ?_
      refine g_iconst (nI 2) dX10_goesOn_17 ki_2 ?_
      refine g_iald_n dX10_goesOn_18 (by first | rfl | assumption) (by first | decide | assumption) (by omega) (by omega) ?_
      try simp (disch := omega) only [hM2.nd, hM2.kd, e32]
      refine g_icmp_ge_n 61 dX10_goesOn_19 (by decide) (by omega) (by omega) (fun c19 => ?_) (fun c19 => ?_)
      · first | refine g_incn4_2 dX10_goesOn_61 ki_1 (by decide) rfl ?_ | refine g_incg4_2 (nI 1) dX10_goesOn_61 ki_1 (by decide) rfl ?_
        refine g_goto 2 dX10_goesOn_64 (by decide) ?_
        refine Go_sub [some (.ref 57), some (.int (nI k)), some (.int (nI (i + 1))), none] (by simp [subL]) (ih (i + 1) (by omega) M2 (gdP S k (q'.1.getD i 0) (S 1 0 0) q') hE2 ?_ ?_ ?_)
        · rw [show n = S 1 0 0 by omega] at hq2; exact hq2
        · rw [show n = S 1 0 0 by omega] at t1; exact t1
        · rw [← hg, gsP, if_pos (by omega)]
      · have hdk := hM.wf.dk (d := n) (by omega)
        refine g_aload_n dX10_goesOn_22 rfl ?_
        refine g_getr (j := 0) dX10_goesOn_23 gc10 rfl (by decide) rfl (by decide) fl_M_9 ?_
        refine g_sipush (nI 275) dX10_goesOn_26 ks_275 ?_
        refine g_iload_n dX10_goesOn_29 rfl ?_
        first | refine g_iadd_n dX10_goesOn_30 ?_ | refine g_iadd dX10_goesOn_30 ?_
        refine g_iald_n dX10_goesOn_31 (by first | rfl | assumption) (by first | decide | assumption) (by omega) (by omega) ?_
        try simp (disch := omega) only [hM2.nd, hM2.kd, e32]
        refine g_iload_n dX10_goesOn_32 rfl ?_
        refine g_icmp_ne_n 55 dX10_goesOn_33 (by decide) (by omega) (by omega) (fun c33 => ?_) (fun c33 => ?_)
        · first | refine g_incn4_3 dX10_goesOn_55 ki_1 (by decide) rfl ?_ | refine g_incg4_3 (nI 1) dX10_goesOn_55 ki_1 (by decide) rfl ?_
          refine g_goto 12 dX10_goesOn_58 (by decide) ?_
          refine nh (by omega) M2 hE2 ?_
          rw [gdP, if_neg (fun z => c33 z.1)]; exact hq2
        · skip
          refine g_aload_n dX10_goesOn_36 rfl ?_
          refine g_iload_n dX10_goesOn_37 rfl ?_
          refine g_call1 dX10_goesOn_38 clM_holder ml_M_78 gc10 rfl rfl (by decide) (Nat.le_of_ble_eq_true rfl) ?_
          refine SM_holder hM2 (by omega) ?_
          refine g_aload_n dX10_goesOn_41 rfl ?_
          refine g_getr (j := 6) dX10_goesOn_42 gc10 rfl (by decide) rfl (by decide) fl_M_25 ?_
          refine g_iload_n dX10_goesOn_45 rfl ?_
          refine g_iald_n dX10_goesOn_46 (by first | rfl | assumption) (by first | decide | assumption) (by omega) (by omega) ?_
          try simp (disch := omega) only [hM2.nd, hM2.kd, e32]
          refine g_icmp_ne 55 dX10_goesOn_47 (by decide) (fun c47 => ?_) (fun c47 => ?_)
          · rw [hv_eq hdk.2.2 (by omega)] at c47
            first | refine g_incn4_3 dX10_goesOn_55 ki_1 (by decide) rfl ?_ | refine g_incg4_3 (nI 1) dX10_goesOn_55 ki_1 (by decide) rfl ?_
            refine g_goto 12 dX10_goesOn_58 (by decide) ?_
            refine nh (by omega) M2 hE2 ?_
            rw [gdP, if_neg (fun z => c47 z.2)]; exact hq2
          · rw [hv_eq hdk.2.2 (by omega)] at c47
            refine g_aload_n dX10_goesOn_50 rfl ?_
            refine g_iload_n dX10_goesOn_51 rfl ?_
            refine g_call1 dX10_goesOn_52 clM_goesFromDuty ml_M_162 gc10 rfl rfl (by decide) (Nat.le_of_ble_eq_true rfl) ?_
            refine SM_goesFromDuty hM2 hq2 t1 (by omega) c33 (Or.inr (by rw [c47]; exact (t2.2.2 _ hmi).1)) (fun M3 hE3 hq3 => ?_)
            first | refine g_incn4_3 dX10_goesOn_55 ki_1 (by decide) rfl ?_ | refine g_incg4_3 (nI 1) dX10_goesOn_55 ki_1 (by decide) rfl ?_
            refine g_goto 12 dX10_goesOn_58 (by decide) ?_
            refine nh (by omega) M3 (hE2.tr hE3) ?_
            rw [gdP, if_pos ⟨c33, c47⟩]; exact hq3
theorem SM_leastCome {d : Nat} {M : Mm} {S : BS} {Q : Po} (hM : MK (M 58) S) {k : Nat} (hk4 : k < 4) {q : PS} (hq : PN M q) (hb : ∀ x ∈ q.1, x < S 0 0 0) (h : Q M (some (.int (hv (lmP S k q.1 q.1.length))))) : Call (d + 5) mM_leastCome [.ref 57, .int (nI k)] M Q := by
  have hw := hM.wf.np
  have hw2 := hM.wf.nd
  obtain ⟨q1, q2, q3, q4, q5⟩ := id hq
  refine Call_of (m := mM_leastCome) [some (.ref 57), some (.int (nI k)), none, none] rfl (fun G => Nat.le_of_ble_eq_true rfl) (fun G => rfl) ?_
  refine g_iconst ((-1)) dX10_leastCome_0 ki_m1 ?_
  refine g_ist4_2 dX10_leastCome_1 (by decide) rfl ?_
  refine g_iconst (nI 0) dX10_leastCome_2 ki_0 ?_
  refine g_ist4_3 dX10_leastCome_3 (by decide) rfl ?_
  refine loop_up (P := fun i => Go mM_leastCome (d + 5) Q 4 [some (.ref 57), some (.int (nI k)), some (.int (hv (lmP S k q.1 i))), some (.int (nI i))] [] M) q.1.length ?_ 0 (Nat.zero_le _)
  intro i hi ih
  refine g_iload_n dX10_leastCome_4 rfl ?_
  refine g_aload_n dX10_leastCome_5 rfl ?_
  refine g_geti (j := 7) dX10_leastCome_6 gc10 rfl (by decide) rfl (by decide) fl_M_155 ?_
  try simp (disch := omega) only [q1, q3]
  refine g_icmp_ge_n 53 dX10_leastCome_9 (by decide) (by omega) (by omega) (fun c9 => ?_) (fun c9 => ?_)
  · refine g_iload_n dX10_leastCome_53 rfl ?_
    refine g_ireturn dX10_leastCome_54 rfl (by first | rfl | exact nar_bI _) ?_
    rw [show i = q.1.length by omega]; exact h
  · have hp := hb _ (getD_mem (show i < q.1.length by omega))
    have h8 : lmP S k q.1 i ≤ 8 := by
      rcases lmP_mem (S := S) (k := k) (l := q.1) (fun p hp => by have := hb p hp; omega) hi with ⟨_, e⟩ | ⟨_, e⟩
      · omega
      · have := hb _ e; omega
    refine g_iload_n dX10_leastCome_12 rfl ?_
    refine g_if_lt 36 dX10_leastCome_13 (by decide) (fun c13 => ?_) (fun c13 => ?_)
    · rw [hv_lt h8] at c13
      refine g_aload_n dX10_leastCome_36 rfl ?_
      refine g_getr (j := 6) dX10_leastCome_37 gc10 rfl (by decide) rfl (by decide) fl_M_25 ?_
      refine g_iload_n dX10_leastCome_40 rfl ?_
      refine g_iald_n dX10_leastCome_41 (by first | rfl | assumption) (by first | decide | assumption) (by omega) (by omega) ?_
      try simp (disch := omega) only [q1, q3]
      refine g_goto 46 dX10_leastCome_42 (by decide) ?_
      refine g_ist4_2 dX10_leastCome_46 (by decide) rfl ?_
      first | refine g_incn4_3 dX10_leastCome_47 ki_1 (by decide) rfl ?_ | refine g_incg4_3 (nI 1) dX10_leastCome_47 ki_1 (by decide) rfl ?_
      refine g_goto 4 dX10_leastCome_50 (by decide) ?_
      rw [← hv_p (p := q.1.getD i 0) (by omega)]
      have := ih (by omega)
      rw [lmP, if_pos (Or.inl c13)] at this
      exact this
    · rw [hv_lt h8] at c13
      have hbest : lmP S k q.1 i < S 0 0 0 := by
        rcases lmP_mem (S := S) (k := k) (l := q.1) (fun p hp => by have := hb p hp; omega) hi with ⟨_, e⟩ | ⟨_, e⟩
        · omega
        · exact hb _ e
      have hl1 := load_le hM.wf hk4 hp
      have hl2 := load_le hM.wf hk4 hbest
      rw [hv_p (p := lmP S k q.1 i) (by omega)]
      refine g_aload_n dX10_leastCome_16 rfl ?_
      refine g_aload_n dX10_leastCome_17 rfl ?_
      refine g_getr (j := 6) dX10_leastCome_18 gc10 rfl (by decide) rfl (by decide) fl_M_25 ?_
      refine g_iload_n dX10_leastCome_21 rfl ?_
      refine g_iald_n dX10_leastCome_22 (by first | rfl | assumption) (by first | decide | assumption) (by omega) (by omega) ?_
      try simp (disch := omega) only [q1, q3]
      refine g_iload_n dX10_leastCome_23 rfl ?_
      refine g_call2 dX10_leastCome_24 clM_loadOf ml_M_132 gc10 rfl rfl (by decide) (Nat.le_of_ble_eq_true rfl) ?_
      refine SM_loadOf hM hp hk4 ?_
      refine g_aload_n dX10_leastCome_27 rfl ?_
      refine g_iload_n dX10_leastCome_28 rfl ?_
      refine g_iload_n dX10_leastCome_29 rfl ?_
      refine g_call2 dX10_leastCome_30 clM_loadOf ml_M_132 gc10 rfl rfl (by decide) (Nat.le_of_ble_eq_true rfl) ?_
      refine SM_loadOf hM hbest hk4 ?_
      refine g_icmp_ge_n 45 dX10_leastCome_33 (by decide) (by omega) (by omega) (fun c33 => ?_) (fun c33 => ?_)
      · refine g_iload_n dX10_leastCome_45 rfl ?_
        refine g_ist4_2 dX10_leastCome_46 (by decide) rfl ?_
        first | refine g_incn4_3 dX10_leastCome_47 ki_1 (by decide) rfl ?_ | refine g_incg4_3 (nI 1) dX10_leastCome_47 ki_1 (by decide) rfl ?_
        refine g_goto 4 dX10_leastCome_50 (by decide) ?_
        have := ih (by omega)
        rw [lmP, if_neg (by omega), hv_p (p := lmP S k q.1 i) (by omega)] at this
        exact this
      · refine g_aload_n dX10_leastCome_36 rfl ?_
        refine g_getr (j := 6) dX10_leastCome_37 gc10 rfl (by decide) rfl (by decide) fl_M_25 ?_
        refine g_iload_n dX10_leastCome_40 rfl ?_
        refine g_iald_n dX10_leastCome_41 (by first | rfl | assumption) (by first | decide | assumption) (by omega) (by omega) ?_
        try simp (disch := omega) only [q1, q3]
        refine g_goto 46 dX10_leastCome_42 (by decide) ?_
        refine g_ist4_2 dX10_leastCome_46 (by decide) rfl ?_
        first | refine g_incn4_3 dX10_leastCome_47 ki_1 (by decide) rfl ?_ | refine g_incg4_3 (nI 1) dX10_leastCome_47 ki_1 (by decide) rfl ?_
        refine g_goto 4 dX10_leastCome_50 (by decide) ?_
        have := ih (by omega)
        rw [lmP, if_pos (Or.inr (by omega)), hv_p (p := q.1.getD i 0) (by omega)] at this
        exact this
/-! SHIFTS and FILLED in the reference -/
theorem SM_shifts {d : Nat} {M : Mm} {S : BS} {Q : Po} (hM : MK (M 58) S) {k : Nat} {o : Prop} {q : PS} (hq : PN M q) (hT : TR S k o q) {i : Nat} (hi : i < q.1.length) (h : ∀ M', EqO [58] M M' → MK (M' 58) (shP 8 S q.2 (q.1.getD i 0)) → Q M' none) : Call (d + 2) mM_shifts [.ref 57, .int (nI (q.1.getD i 0))] M Q := by
  have hw := hM.wf.np
  have hw2 := hM.wf.nd
  have hl := hT.len hM.wf
  obtain ⟨q1, q2, q3, q4, q5⟩ := id hq
  have hag0 : AG S S q i := fun j hj hlt => rfl
  have hfin := shP_more (dnP_of hM.wf hT hi hag0) (8 - (i + 1))
  rw [show i + 1 + (8 - (i + 1)) = 8 by omega] at hfin
  rw [hfin] at h
  clear hfin
  refine Call_of (m := mM_shifts) [some (.ref 57), some (.int (nI (q.1.getD i 0))), none, none, none] rfl (fun G => Nat.le_of_ble_eq_true rfl) (fun G => rfl) ?_
  refine g_iload_n dX10_shifts_0 rfl ?_
  refine g_ist5_2 dX10_shifts_1 (by decide) rfl ?_
  suffices hloop : ∀ (i : Nat) (M' : Mm) (S' : BS) (a : Int32), i < q.1.length → EqO [58] M M' → MK (M' 58) S' → (∀ b, b ≠ 12 → S' b = S b) → AG S S' q i → (∀ M2, EqO [58] M' M2 → MK (M2 58) (shP (i + 1) S' q.2 (q.1.getD i 0)) → Q M2 none) → Go mM_shifts (d + 2) Q 2 [some (.ref 57), some (.int a), some (.int (nI (q.1.getD i 0))), none, none] [] M' by
    exact hloop i M S _ hi EqO.rf hM (fun _ _ => rfl) hag0 h
  intro i
  induction i using Nat.strongRecOn with
  | ind i ih =>
    intro M' S' a hi hE hM' hS' hag hQ
    have hp := hT.2.1 _ (getD_mem hi)
    have e0 : S' 0 0 0 = S 0 0 0 := by rw [hS' 0 (by decide)]
    have e1 : S' 1 0 0 = S 1 0 0 := by rw [hS' 1 (by decide)]
    have e33 : M' 64 (q.1.getD i 0) = bv (q.2 (q.1.getD i 0)) := by rw [hE 64 (by decide)]; exact q5 _ (getD_mem hi)
    rcases hT.2.2 i hi with ⟨a1, a2, a3⟩ | ⟨a1, a2, a3, a4⟩
    · rw [a1, show bv 24 = -1 from rfl] at e33
      refine g_iload_n dX10_shifts_2 rfl ?_
      refine g_if_lt_n 46 dX10_shifts_3 (by decide) (by omega) ?_
      refine g_aload_n dX10_shifts_6 rfl ?_
      refine g_getr (j := 8) dX10_shifts_7 gc10 rfl (by decide) rfl (by decide) fl_M_28 ?_
      refine g_iload_n dX10_shifts_10 rfl ?_
      refine g_iald_n dX10_shifts_11 (by first | rfl | assumption) (by first | decide | assumption) (by omega) (by omega) ?_
      try simp (disch := omega) only [e33]
      refine g_if_lt 46 dX10_shifts_12 (by decide) (fun c12 => ?_) (fun c12 => ?_)
      · refine g_return dX10_shifts_46 rfl ?_
        refine hQ M' EqO.rf ?_
        rw [shP, if_neg (fun z => by omega)]; exact hM'
      · exact absurd (show (-1 : Int32) < 0 by decide) c12
    · have hlt : q.2 (q.1.getD i 0) < 24 := by omega
      rw [show bv (q.2 (q.1.getD i 0)) = nI (q.2 (q.1.getD i 0)) by unfold bv; rw [if_neg (by omega)]] at e33
      refine g_iload_n dX10_shifts_2 rfl ?_
      refine g_if_lt_n 46 dX10_shifts_3 (by decide) (by omega) ?_
      refine g_aload_n dX10_shifts_6 rfl ?_
      refine g_getr (j := 8) dX10_shifts_7 gc10 rfl (by decide) rfl (by decide) fl_M_28 ?_
      refine g_iload_n dX10_shifts_10 rfl ?_
      refine g_iald_n dX10_shifts_11 (by first | rfl | assumption) (by first | decide | assumption) (by omega) (by omega) ?_
      try simp (disch := omega) only [e33]
      refine g_if_lt_n 46 dX10_shifts_12 (by decide) (by omega) ?_
      refine g_aload_n dX10_shifts_15 rfl ?_
      refine g_getr (j := 8) dX10_shifts_16 gc10 rfl (by decide) rfl (by decide) fl_M_28 ?_
      refine g_iload_n dX10_shifts_19 rfl ?_
      refine g_iald_n dX10_shifts_20 (by first | rfl | assumption) (by first | decide | assumption) (by omega) (by omega) ?_
      try simp (disch := omega) only [e33]
      refine g_ist5_3 dX10_shifts_21 (by decide) rfl ?_
      refine g_aload_n dX10_shifts_22 rfl ?_
      refine g_iload_n dX10_shifts_23 rfl ?_
      refine g_call1 dX10_shifts_24 clM_holder ml_M_78 gc10 rfl rfl (by decide) (Nat.le_of_ble_eq_true rfl) ?_
      refine SM_holder hM' (by rw [e1]; exact a1) ?_
      refine g_ist5_4 dX10_shifts_27 (by decide) rfl ?_
      refine g_aload_n dX10_shifts_29 rfl ?_
      refine g_getr (j := 0) dX10_shifts_30 gc10 rfl (by decide) rfl (by decide) fl_M_9 ?_
      refine g_sipush (nI 299) dX10_shifts_33 ks_299 ?_
      refine g_iload_n dX10_shifts_36 rfl ?_
      first | refine g_iadd_n dX10_shifts_37 ?_ | refine g_iadd dX10_shifts_37 ?_
      refine g_iload_n dX10_shifts_38 rfl ?_
      refine g_iast_n dX10_shifts_39 (by first | rfl | assumption) (by first | decide | assumption) (by omega) (by omega) ?_
      refine g_iload dX10_shifts_40 rfl ?_
      refine g_ist5_2 dX10_shifts_42 (by decide) rfl ?_
      refine g_goto 2 dX10_shifts_43 (by decide) ?_
      have hM2 := hM'.hol1 (e := q.2 (q.1.getD i 0)) (q := q.1.getD i 0) (by rw [e1]; exact a1) (by omega)
      rw [hv_p (p := q.1.getD i 0) (by omega), ← mset_row] at hM2
      have hS2 : ∀ b, b ≠ 12 → up S' 12 (q.2 (q.1.getD i 0)) 0 (q.1.getD i 0) b = S b := fun b hb => by
        rw [← hS' b hb]; funext y z; exact up_off (fun w => hb w.1)
      rcases AG_step hM.wf hT hi hlt hag with ⟨_, e8⟩ | ⟨j, hj, e, hag2⟩
      · rw [e8, hv_8]
        refine g_iload_n dX10_shifts_2 rfl ?_
        refine g_if_lt 46 dX10_shifts_3 (by decide) (fun c3 => ?_) (fun c3 => ?_)
        rotate_left
        · exact absurd (show (-1 : Int32) < 0 by decide) c3
        refine g_return dX10_shifts_46 rfl ?_
        refine hQ _ (EqO.set (by decide)) ?_
        rw [shP, if_pos ⟨by omega, hlt⟩, e8, shP_8]; exact hM2
      · rw [← e, hv_p (p := q.1.getD j 0) (by have := hT.2.1 _ (getD_mem (show j < q.1.length by omega)); omega)]
        refine Go_sub [some (.ref 57), some (.int a), some (.int (nI (q.1.getD j 0))), none, none] (by simp [subL]) ?_
        refine ih j hj _ _ _ (by omega) (hE.tr (EqO.set (by decide))) hM2 hS2 hag2 (fun M2 hE2 hB3 => hQ M2 ((EqO.set (by decide)).tr hE2) ?_)
        rw [shP_step hM.wf hT hi hlt hag hj e hag2]; exact hB3
theorem SM_filled {d : Nat} {M : Mm} {S : BS} {Q : Po} (hM : MK (M 58) S) {k : Nat} (hk : k < 4) (h : ∀ M', EqQ [58, 62, 63, 64, 65] M M' → MK (M' 58) (flP S k (S 1 0 0)).1 → Q M' (some (.int (nI (flP S k (S 1 0 0)).2)))) : Call (d + 7) mM_filled [.ref 57, .int (nI k)] M Q := by
  have hw := hM.wf.np
  have hw2 := hM.wf.nd
  refine Call_of (m := mM_filled) [some (.ref 57), some (.int (nI k)), none, none, none, none] rfl (fun G => Nat.le_of_ble_eq_true rfl) (fun G => rfl) ?_
  refine g_iconst (nI 0) dX10_filled_0 ki_0 ?_
  refine g_ist6_2 dX10_filled_1 (by decide) rfl ?_
  refine g_aload_n dX10_filled_2 rfl ?_
  refine g_call0 dX10_filled_3 clM_lines ml_M_103 gc10 rfl rfl (by decide) (Nat.le_of_ble_eq_true rfl) ?_
  refine SM_lines hM (fun M0 hE0 h62 => ?_)
  refine g_iconst (nI 0) dX10_filled_6 ki_0 ?_
  refine g_ist6_3 dX10_filled_7 (by decide) rfl ?_
  refine loop_up (P := fun i => ∀ M', EqQ [58, 63, 64, 65] M0 M' → MK (M' 58) (flP S k i).1 → Go mM_filled (d + 7) Q 8 [some (.ref 57), some (.int (nI k)), some (.int (nI (flP S k i).2)), some (.int (nI i)), none, none] [] M') (S 1 0 0) ?_ 0 (Nat.zero_le _) M0 EqQ.rf (by rw [hE0 58 (by decide)]; exact hM)
  intro i hi ih M' hE hM'
  have eT : ∀ a, a ≠ 12 → (flP S k i).1 a = S a := fun a ha => flP_ho S k ha
  have e0 : (flP S k i).1 0 0 0 = S 0 0 0 := by rw [eT 0 (by decide)]
  have e1 : (flP S k i).1 1 0 0 = S 1 0 0 := by rw [eT 1 (by decide)]
  have h62' : ∀ j, j < S 1 0 0 → M' 62 j = nI (sd S j) := fun j hj => by rw [hE.row (by decide) (by decide)]; exact h62 j hj
  have hkd : ∀ d, d < S 1 0 0 → M' 58 (275 + d) = nI (S 11 d 0) := fun d hd => by rw [hM'.kd (by rw [e1]; exact hd), eT 11 (by decide)]
  refine g_iload_n dX10_filled_8 rfl ?_
  refine g_aload_n dX10_filled_9 rfl ?_
  refine g_getr (j := 0) dX10_filled_10 gc10 rfl (by decide) rfl (by decide) fl_M_9 ?_
  refine g_iconst (nI 2) dX10_filled_13 ki_2 ?_
  refine g_iald_n dX10_filled_14 (by first | rfl | assumption) (by first | decide | assumption) (by omega) (by omega) ?_
  try simp (disch := omega) only [hM'.nd, e1, h62', hkd]
  refine g_icmp_ge_n 92 dX10_filled_15 (by decide) (by omega) (by omega) (fun c15 => ?_) (fun c15 => ?_)
  · refine g_iload_n dX10_filled_92 rfl ?_
    refine g_ireturn dX10_filled_93 rfl (by first | rfl | exact nar_bI _) ?_
    rw [show i = S 1 0 0 by omega] at hM' ⊢
    exact h M' ((EqQ.ofO (hE0.sub (by decide))).tr (hE.sub (by decide))) hM'
  · have hs := sd_lt (S := S) (k := i) (by omega)
    have hdk := hM'.wf.dk (d := sd S i) (by omega)
    have ek : (flP S k i).1 11 (sd S i) 0 = S 11 (sd S i) 0 := by rw [eT 11 (by decide)]
    rw [ek] at hdk
    refine g_aload_n dX10_filled_18 rfl ?_
    refine g_getr (j := 5) dX10_filled_19 gc10 rfl (by decide) rfl (by decide) fl_M_22 ?_
    refine g_iload_n dX10_filled_22 rfl ?_
    refine g_iald_n dX10_filled_23 (by first | rfl | assumption) (by first | decide | assumption) (by omega) (by omega) ?_
    try simp (disch := omega) only [hM'.nd, e1, h62', hkd]
    refine g_ist6_4 dX10_filled_24 (by decide) rfl ?_
    refine g_aload_n dX10_filled_26 rfl ?_
    refine g_getr (j := 0) dX10_filled_27 gc10 rfl (by decide) rfl (by decide) fl_M_9 ?_
    refine g_sipush (nI 275) dX10_filled_30 ks_275 ?_
    refine g_iload dX10_filled_33 rfl ?_
    first | refine g_iadd_n dX10_filled_35 ?_ | refine g_iadd dX10_filled_35 ?_
    refine g_iald_n dX10_filled_36 (by first | rfl | assumption) (by first | decide | assumption) (by omega) (by omega) ?_
    try simp (disch := omega) only [hM'.nd, e1, h62', hkd]
    refine g_iload_n dX10_filled_37 rfl ?_
    refine g_icmp_ne_n 86 dX10_filled_38 (by decide) (by omega) (by omega) (fun c38 => ?_) (fun c38 => ?_)
    · first | refine g_incn6_3 dX10_filled_86 ki_1 (by decide) rfl ?_ | refine g_incg6_3 (nI 1) dX10_filled_86 ki_1 (by decide) rfl ?_
      refine g_goto 8 dX10_filled_89 (by decide) ?_
      refine Go_sub [some (.ref 57), some (.int (nI k)), some (.int (nI (flP S k i).2)), some (.int (nI (i + 1))), none, none] (by simp [subL]) ?_
      have := ih (by omega) M' hE
      rw [flP, if_neg (fun z => c38 z.1)] at this
      exact this hM'
    · refine g_aload_n dX10_filled_41 rfl ?_
      refine g_iload dX10_filled_42 rfl ?_
      refine g_call1 dX10_filled_44 clM_holder ml_M_78 gc10 rfl rfl (by decide) (Nat.le_of_ble_eq_true rfl) ?_
      refine SM_holder hM' (by rw [e1]; exact hs) ?_
      refine g_if_ge 86 dX10_filled_47 (by decide) (fun c47 => ?_) (fun c47 => ?_)
      · have hne : ¬ (flP S k i).1 12 (sd S i) 0 = 8 := fun z => by rw [z, hv_8] at c47; exact absurd c47 (by decide)
        first | refine g_incn6_3 dX10_filled_86 ki_1 (by decide) rfl ?_ | refine g_incg6_3 (nI 1) dX10_filled_86 ki_1 (by decide) rfl ?_
        refine g_goto 8 dX10_filled_89 (by decide) ?_
        refine Go_sub [some (.ref 57), some (.int (nI k)), some (.int (nI (flP S k i).2)), some (.int (nI (i + 1))), none, none] (by simp [subL]) ?_
        have := ih (by omega) M' hE
        rw [flP, if_neg (fun z => hne z.2.1)] at this
        exact this hM'
      · have c48 : (flP S k i).1 12 (sd S i) 0 = 8 := by
          rcases Nat.lt_or_ge ((flP S k i).1 12 (sd S i) 0) 8 with z | z
          · rw [hv_p z] at c47; exact absurd (nI_pos' (by omega)) c47
          · omega
        have hfp := fpP_ok (S := (flP S k i).1) (k := k) (d := sd S i) (by rw [e1]; exact hs) (by rw [ek]; exact c38) c48
        refine g_aload_n dX10_filled_50 rfl ?_
        refine g_call0 dX10_filled_51 clM_begins ml_M_165 gc10 rfl rfl (by decide) (Nat.le_of_ble_eq_true rfl) ?_
        refine SM_begins (fun M1 hE1 hq1 => ?_)
        have hM1 := hM'.eqQ hE1 (by decide)
        refine g_aload_n dX10_filled_54 rfl ?_
        refine g_iload dX10_filled_55 rfl ?_
        refine g_call1 dX10_filled_57 clM_goesFromDuty ml_M_162 gc10 rfl rfl (by decide) (Nat.le_of_ble_eq_true rfl) ?_
        refine SM_goesFromDuty hM1 hq1 (TR.nil _ k True) (by rw [e1]; exact hs) (by rw [ek]; exact c38) (Or.inl ⟨trivial, c48⟩) (fun M2 hE2 hq2 => ?_)
        have hM2 := hM1.eqQ hE2 (by decide)
        obtain ⟨t1, t2⟩ := mwP_ok (S := (flP S k i).1) (d := sd S i) (by rw [e1]; exact hs) (by rw [ek]; exact c38) (Nat.le_refl _) (TR.nil _ k True) (Or.inl ⟨trivial, c48⟩)
        refine g_aload_n dX10_filled_60 rfl ?_
        refine g_iload_n dX10_filled_61 rfl ?_
        refine g_call1 dX10_filled_62 clM_goesOn ml_M_168 gc10 rfl rfl (by decide) (Nat.le_of_ble_eq_true rfl) ?_
        refine SM_goesOn hM2 hk hq2 t1 (fun M3 hE3 hq3 => ?_)
        have hM3 := hM2.eqQ hE3 (by decide)
        have hq3' : PN M3 (fpP (flP S k i).1 k (sd S i)) := hq3
        have hlen := hfp.len hM'.wf
        have hE4 := hE.tr ((hE1.sub (by decide)).tr ((hE2.sub (by decide)).tr (hE3.sub (by decide))))
        refine g_aload_n dX10_filled_65 rfl ?_
        refine g_iload_n dX10_filled_66 rfl ?_
        refine g_call1 dX10_filled_67 clM_leastCome ml_M_171 gc10 rfl rfl (by decide) (Nat.le_of_ble_eq_true rfl) ?_
        refine SM_leastCome hM3 hk hq3' hfp.2.1 ?_
        have hlm := lmP_mem (S := (flP S k i).1) (k := k) (l := (fpP (flP S k i).1 k (sd S i)).1) (fun p hp => by have := hfp.2.1 p hp; omega) (Nat.le_refl _)
        have h8 : lmP (flP S k i).1 k (fpP (flP S k i).1 k (sd S i)).1 (fpP (flP S k i).1 k (sd S i)).1.length ≤ 8 := by
          rcases hlm with ⟨_, e⟩ | ⟨_, e⟩
          · omega
          · have := hfp.2.1 _ e; omega
        refine g_ist6_5 dX10_filled_70 (by decide) rfl ?_
        refine g_iload dX10_filled_72 rfl ?_
        refine g_if_lt 86 dX10_filled_74 (by decide) (fun c74 => ?_) (fun c74 => ?_)
        · rw [hv_lt h8] at c74
          have hl0 : (fpP (flP S k i).1 k (sd S i)).1.length = 0 := by
            rcases hlm with ⟨e, _⟩ | ⟨_, e⟩
            · exact e
            · have := hfp.2.1 _ e; omega
          first | refine g_incn6_3 dX10_filled_86 ki_1 (by decide) rfl ?_ | refine g_incg6_3 (nI 1) dX10_filled_86 ki_1 (by decide) rfl ?_
          refine g_goto 8 dX10_filled_89 (by decide) ?_
          refine Go_sub [some (.ref 57), some (.int (nI k)), some (.int (nI (flP S k i).2)), some (.int (nI (i + 1))), none, none] (by simp [subL]) ?_
          have := ih (by omega) M3 hE4
          rw [flP, if_neg (fun z => z.2.2 hl0)] at this
          exact this hM3
        · rw [hv_lt h8] at c74
          obtain ⟨hl0, hmem⟩ := hlm.resolve_left (fun z => c74 z.2)
          obtain ⟨j, hj, ej⟩ := getD_of_mem hmem
          have hlt := hfp.2.1 _ hmem
          rw [hv_p (by omega)]
          refine g_aload_n dX10_filled_77 rfl ?_
          refine g_iload dX10_filled_78 rfl ?_
          refine g_call1 dX10_filled_80 clM_shifts ml_M_174 gc10 rfl rfl (by decide) (Nat.le_of_ble_eq_true rfl) ?_
          rw [← ej]
          refine SM_shifts hM3 hq3' hfp hj (fun M4 hE4' hM4 => ?_)
          first | refine g_incn6_2 dX10_filled_83 ki_1 (by decide) rfl ?_ | refine g_incg6_2 (nI 1) dX10_filled_83 ki_1 (by decide) rfl ?_
          first | refine g_incn6_3 dX10_filled_86 ki_1 (by decide) rfl ?_ | refine g_incg6_3 (nI 1) dX10_filled_86 ki_1 (by decide) rfl ?_
          refine g_goto 8 dX10_filled_89 (by decide) ?_
          refine Go_sub [some (.ref 57), some (.int (nI k)), some (.int (nI ((flP S k i).2 + 1))), some (.int (nI (i + 1))), none, none] (by simp [subL]) ?_
          have := ih (by omega) M4 (hE4.tr (EqQ.ofO (hE4'.sub (by decide))))
          rw [flP, if_pos ⟨c38, c48, by omega⟩, ← ej] at this
          exact this hM4
