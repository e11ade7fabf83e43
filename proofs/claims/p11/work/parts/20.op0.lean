theorem g_dup2 {m : Me} {d : Nat} {Q : Po} {pc : Nat} {ls : Lv} {st : St} {M : Mm} {v w : Value} (hd : decode m.2.1 pc = .ok (.dup2, 1)) (hv : v.category = 1) (hw : w.category = 1) (kk : Go m d Q (pc + 1) ls (v :: w :: v :: w :: st) M) : Go m d Q pc ls (v :: w :: st) M := by
  intro p l e s mi args below meth c G sz hF hK hS hz H locs arr hP hD hFr hl
  exact lv_dup2_11 hF.1 hF.2.1 hd (by rw [cv_cat]; exact hv) (by rw [cv_cat]; exact hw) (kk p l e s mi args below meth c G sz hF hK hS hz H locs arr hP hD hFr hl)
/-! BOTH SIDE BY SIDE: what holds between the calls -/
/-- who holds may hold -/
def HM (S : BS) : Prop := ∀ d, d < S 1 0 0 → S 12 d 0 < 8 → mayB S (S 12 d 0) d = true
theorem mayB_here {S : BS} {p d : Nat} (h : mayB S p d = true) : S 4 p 0 = 1 := by
  unfold mayB at h
  rw [Bool.and_eq_true] at h
  exact hr_of.mp h.1
theorem HM.here {S : BS} (h : HM S) {d : Nat} (hd : d < S 1 0 0) (h8 : S 12 d 0 < 8) : S 4 (S 12 d 0) 0 = 1 := mayB_here (h d hd h8)
theorem may_cong {S T : BS} {p d : Nat} (h4 : T 4 p 0 = S 4 p 0) (h6 : T 6 p 0 = S 6 p 0) (h7 : ∀ r, T 7 p r = S 7 p r) (h8 : ∀ r, T 8 p r = S 8 p r) (h9 : ∀ r, T 9 p r = S 9 p r) (h10 : T 10 d 0 = S 10 d 0) (h11 : T 11 d 0 = S 11 d 0) : mayB T p d = mayB S p d := by
  unfold mayB hr
  simp only [h4, h6, h7, h8, h9, h10, h11]
theorem may_ho {S T : BS} (h : ∀ a, a ≠ 12 → T a = S a) (p d : Nat) : mayB T p d = mayB S p d := may_cong (by rw [h 4 (by decide)]) (by rw [h 6 (by decide)]) (fun r => by rw [h 7 (by decide)]) (fun r => by rw [h 8 (by decide)]) (fun r => by rw [h 9 (by decide)]) (by rw [h 10 (by decide)]) (by rw [h 11 (by decide)])
def okO (k j : Nat) : Prop := k = 0 ∨ (14 ≤ k ∧ k ≤ 26) ∨ (k = 41 ∧ j = 1) ∨ k = 42 ∨ (52 ≤ k ∧ k ≤ 56) ∨ (k = 57 ∧ (j = 2 ∨ j = 19 ∨ j = 31)) ∨ (59 ≤ k ∧ k ≤ 61) ∨ k = 69 ∨ 74 ≤ k
def FrC (M M' : Mm) : Prop := ∀ k j, (okO k j ∨ 57 ≤ k) → M' k j = M k j
def FrM (M M' : Mm) : Prop := ∀ k j, (okO k j ∨ k < 57) → M' k j = M k j
def LC : List Nat := [1, 2, 3, 4, 5, 6, 7, 8, 9, 10, 11, 12, 13, 27, 28, 29, 30, 31, 32, 33, 34, 35, 36, 37, 38, 39, 40, 43, 44, 45, 46, 47, 48, 49, 50, 51]
def LM : List Nat := [58, 62, 63, 64, 65, 66, 67, 68, 70, 71, 72, 73]
theorem LC_in {k : Nat} (h : k ∈ LC) : (1 ≤ k ∧ k ≤ 13) ∨ (27 ≤ k ∧ k ≤ 40) ∨ (43 ≤ k ∧ k ≤ 51) := by
  simp only [LC, List.mem_cons, List.not_mem_nil, or_false] at h
  omega
theorem LM_in {k : Nat} (h : k ∈ LM) : k = 58 ∨ (62 ≤ k ∧ k ≤ 68) ∨ (70 ≤ k ∧ k ≤ 73) := by
  simp only [LM, List.mem_cons, List.not_mem_nil, or_false] at h
  omega
theorem FrC.of {L : List Nat} {M M' : Mm} (h : EqO L M M') (hL : ∀ k ∈ L, k ∈ LC) : FrC M M' := fun k j hk => by
  rw [h k (fun e => ?_)]
  have := LC_in (hL k e)
  unfold okO at hk
  omega
theorem FrM.of {L : List Nat} {M M' : Mm} (h : EqO L M M') (hL : ∀ k ∈ L, k ∈ LM) : FrM M M' := fun k j hk => by
  rw [h k (fun e => ?_)]
  have := LM_in (hL k e)
  unfold okO at hk
  omega
theorem FrC.rf {M : Mm} : FrC M M := fun _ _ _ => rfl
theorem FrM.rf {M : Mm} : FrM M M := fun _ _ _ => rfl
theorem FrC.tr {M M1 M2 : Mm} (h1 : FrC M M1) (h2 : FrC M1 M2) : FrC M M2 := fun k j hk => (h2 k j hk).trans (h1 k j hk)
theorem FrM.tr {M M1 M2 : Mm} (h1 : FrM M M1) (h2 : FrM M1 M2) : FrM M M2 := fun k j hk => (h2 k j hk).trans (h1 k j hk)
/-- the image, the tape, the paper, the lists -/
def OT (M : Mm) (b : Bool) (S' : BS) (n : Nat) (t : Nat → Nat) (pn : Nat) (pf : Nat → Nat) : Prop :=
  (b = true → HM S') ∧ n ≤ 150 ∧ (∀ i, i < n → 1 ≤ t i ∧ t i ≤ 127) ∧ pn ≤ 168 ∧
  (M 0 2 = bI b ∧ (b = true → BK (fun k => M (k + 13)) S') ∧ M 41 1 = nI n ∧ (∀ i, i < n → M 42 i = nI (t i)) ∧ M 52 1 = nI pn ∧ (∀ i, i < pn → M 53 i = nI (pf i))) ∧
  (M 57 2 = bI b ∧ (b = true → MK (M 59) S') ∧ M 57 19 = nI n ∧ (∀ i, i < n → M 69 i = nI (t i)) ∧ M 57 31 = nI pn ∧ (∀ i, i < pn → M 74 i = nI (pf i))) ∧
  (∀ l, l < 4 → M 75 l = M 56 l ∧ (M 56 l = -1 ∨ ∃ s, s ≤ 30 ∧ M 56 l = nI s)) ∧ (∀ i, i < 120 → M 76 i = M 55 i) ∧ MC M
theorem OT.keep {M M' : Mm} {b : Bool} {S' : BS} {n : Nat} {t : Nat → Nat} {pn : Nat} {pf : Nat → Nat} (h : OT M b S' n t pn pf) (hk : ∀ k j, okO k j → M' k j = M k j) : OT M' b S' n t pn pf := by
  unfold okO at hk
  obtain ⟨h1, h2, h3, h4, ⟨a1, a2, a3, a4, a5, a6⟩, ⟨b1, b2, b3, b4, b5, b6⟩, c1, c2, c3⟩ := h
  refine ⟨h1, h2, h3, h4, ⟨?_, fun hb => ?_, ?_, fun i hi => ?_, ?_, fun i hi => ?_⟩, ⟨?_, fun hb => ?_, ?_, fun i hi => ?_, ?_, fun i hi => ?_⟩, fun l hl => ?_, fun i hi => ?_, ⟨fun j hj => ?_, fun j hj => ?_⟩⟩
  · rw [hk 0 2 (by omega)]; exact a1
  · refine (a2 hb).keep (fun k j hr => ?_)
    have hk13 : 1 ≤ k ∧ k ≤ 13 := by unfold relB at hr; omega
    exact hk (k + 13) j (by omega)
  · rw [hk 41 1 (by omega)]; exact a3
  · rw [hk 42 i (by omega)]; exact a4 i hi
  · rw [hk 52 1 (by omega)]; exact a5
  · rw [hk 53 i (by omega)]; exact a6 i hi
  · rw [hk 57 2 (by omega)]; exact b1
  · rw [show M' 59 = M 59 from funext (fun j => hk 59 j (by omega))]; exact b2 hb
  · rw [hk 57 19 (by omega)]; exact b3
  · rw [hk 69 i (by omega)]; exact b4 i hi
  · rw [hk 57 31 (by omega)]; exact b5
  · rw [hk 74 i (by omega)]; exact b6 i hi
  · rw [hk 75 l (by omega), hk 56 l (by omega)]; exact c1 l hl
  · rw [hk 76 i (by omega), hk 55 i (by omega)]; exact c2 i hi
  · rw [hk 60 j (by omega)]; exact c3.1 j hj
  · rw [hk 61 j (by omega)]; exact c3.2 j hj
def INV (M : Mm) : Prop := ∃ (S : BS) (b : Bool) (S' : BS) (n : Nat) (t : Nat → Nat) (pn : Nat) (pf : Nat → Nat), HM S ∧ BK M S ∧ MK (M 58) S ∧ OT M b S' n t pn pf
/-- a call on both: the same answer, and what holds between the calls holds again -/
def TyI (r1 r2 : Option Value) : Prop := ∃ v : Int32, r1 = some (.int v) ∧ r2 = some (.int v)
theorem TyI.rf {v : Int32} : TyI (some (.int v)) (some (.int v)) := ⟨v, rfl, rfl⟩
theorem TyI.of {v w : Int32} (h : w = v) : TyI (some (.int v)) (some (.int w)) := ⟨v, rfl, by rw [h]⟩
def IsI (r : Option Value) : Prop := ∃ v : Int32, r = some (.int v)
theorem IsI.rf {v : Int32} : IsI (some (.int v)) := ⟨v, rfl⟩
def Both (yF yM : Me) (args : List Value) : Prop := ∀ M, INV M → Call 60 yF (.ref 0 :: args) M (fun M1 r1 => IsI r1 ∧ Call 60 yM (.ref 57 :: args) M1 (fun M2 r2 => TyI r1 r2 ∧ INV M2))
/-- a call on both whose answers may be unlike: what holds between the calls holds again -/
def BothW (yF yM : Me) (args : List Value) : Prop := ∀ M, INV M → Call 60 yF (.ref 0 :: args) M (fun M1 r1 => IsI r1 ∧ Call 60 yM (.ref 57 :: args) M1 (fun M2 r2 => IsI r2 ∧ INV M2))
theorem BK.frM {M M' : Mm} {S : BS} (h : BK M S) (hf : FrM M M') : BK M' S := h.keep (fun k j hr => hf k j (Or.inr (by unfold relB at hr; omega)))
theorem MK.frC {M M' : Mm} {S : BS} (h : MK (M 58) S) (hf : FrC M M') : MK (M' 58) S := by
  rw [show M' 58 = M 58 from funext (fun j => hf 58 j (Or.inr (by omega)))]; exact h
theorem MC.frC {M M' : Mm} (h : MC M) (hf : FrC M M') : MC M' := ⟨fun j hj => by rw [hf 60 j (Or.inr (by omega))]; exact h.1 j hj, fun j hj => by rw [hf 61 j (Or.inr (by omega))]; exact h.2 j hj⟩
/-- calls that speak of the roster alone -/
theorem both_book {yF yM : Me} {args : List Value} (f : BS → Int32 × BS) (hc : ∀ (M : Mm) (S : BS) (Q : Po), BK M S → HM S → (∀ M', FrC M M' → BK M' (f S).2 → Q M' (some (.int (f S).1))) → Call 60 yF (.ref 0 :: args) M Q)
    (hm : ∀ (M : Mm) (S : BS) (Q : Po), MK (M 58) S → MC M → HM S → (∀ M', FrM M M' → MK (M' 58) (f S).2 → Q M' (some (.int (f S).1))) → Call 60 yM (.ref 57 :: args) M Q) (hH : ∀ S, WF S → HM S → HM (f S).2) : Both yF yM args := by
  intro M ⟨S, b, S', n, t, pn, pf, h1, h2, h3, h4⟩
  refine hc M S _ h2 h1 (fun M1 hf1 hB1 => ?_)
  have h4' := h4.keep (fun k j hk => hf1 k j (Or.inl hk))
  refine ⟨IsI.rf, ?_⟩
  refine hm M1 S _ (MK.frC h3 hf1) (h4'.2.2.2.2.2.2.2.2) h1 (fun M2 hf2 hM2 => ?_)
  exact ⟨TyI.rf, (f S).2, b, S', n, t, pn, pf, hH S h2.wf h1, hB1.frM hf2, hM2, h4'.keep (fun k j hk => hf2 k j (Or.inl hk))⟩
def v2n (x : Int32) : Nat := x.toNatClampNeg
theorem v2n_nI {n : Nat} (h : n < 2 ^ 31) : v2n (nI n) = n := nI_clamp h
/-! comes, goes, past -/
def f_comes (x : Int32) (S : BS) : Int32 × BS := if inR x 4 = true then (if S 0 0 0 = 8 then (-4, S) else (nI (S 0 0 0), addS S (v2n x))) else (-1, S)
theorem SF_comes (x : Int32) (M : Mm) (S : BS) (Q : Po) (hB : BK M S) (hH : HM S) (h : ∀ M', FrC M M' → BK M' (f_comes x S).2 → Q M' (some (.int (f_comes x S).1))) : Call 60 mF_comes [.ref 0, .int x] M Q := by
  have hw := hB.wf.np
  refine Call_of (m := mF_comes) [some (.ref 0), some (.int x)] rfl (fun G => Nat.le_of_ble_eq_true rfl) (fun G => rfl) ?_
  refine g_iload_n dX9_comes_0 rfl ?_
  refine g_if_lt 9 dX9_comes_1 (by decide) (fun c1 => ?_) (fun c1 => ?_)
  · have e : inR x 4 = false := inR_f1 c1
    simp only [f_comes, e, Bool.false_eq_true, if_false] at h
    refine g_iconst ((-1)) dX9_comes_9 ki_m1 ?_
    refine g_ireturn dX9_comes_10 rfl (by first | rfl | exact nar_bI _) ?_
    exact h M FrC.rf hB
  · skip
    refine g_iload_n dX9_comes_4 rfl ?_
    refine g_iconst (nI 4) dX9_comes_5 ki_4 ?_
    refine g_icmp_lt 11 dX9_comes_6 (by decide) (fun c6 => ?_) (fun c6 => ?_)
    · have e : inR x 4 = true := inR_t1 (by omega) c1 (Int32.not_le.mpr c6)
      obtain ⟨r, hr, rfl⟩ := inR_true e
      simp only [f_comes, e, if_true, v2n_nI (show r < 2 ^ 31 by omega)] at h
      refine g_aload_n dX9_comes_11 rfl ?_
      refine g_getr (j := 0) dX9_comes_12 gc9 rfl (by decide) rfl (by decide) fl_F_13 ?_
      refine g_geti (j := 0) dX9_comes_15 gc0 rfl (by decide) rfl (by decide) fl_F_83 ?_
      try simp (disch := omega) only [hB.np]
      refine g_bipush (nI 8) dX9_comes_18 kb_8 ?_
      refine g_icmp_lt_n 26 dX9_comes_20 (by decide) (by omega) (by omega) (fun c20 => ?_) (fun c20 => ?_)
      · rw [if_neg (by omega)] at h
        refine g_aload_n dX9_comes_26 rfl ?_
        refine g_getr (j := 0) dX9_comes_27 gc9 rfl (by decide) rfl (by decide) fl_F_13 ?_
        refine g_iload_n dX9_comes_30 rfl ?_
        refine g_call1 dX9_comes_31 clB_addOne ml_F_87 gc0 rfl rfl (by decide) (Nat.le_of_ble_eq_true rfl) ?_
        refine SB_addOne hB (by omega) c20 (fun M' hE hB' => ?_)
        refine g_ireturn dX9_comes_34 rfl (by first | rfl | exact nar_bI _) ?_
        exact h M' (FrC.of hE (by decide)) hB'
      · rw [if_pos (by omega)] at h
        refine g_bipush ((-4)) dX9_comes_23 kb_m4 ?_
        refine g_ireturn dX9_comes_25 rfl (by first | rfl | exact nar_bI _) ?_
        exact h M FrC.rf hB
    · have e : inR x 4 = false := inR_f2 (by omega) (Nat.le_refl _) (Int32.not_lt.mp c6)
      simp only [f_comes, e, Bool.false_eq_true, if_false] at h
      refine g_iconst ((-1)) dX9_comes_9 ki_m1 ?_
      refine g_ireturn dX9_comes_10 rfl (by first | rfl | exact nar_bI _) ?_
      exact h M FrC.rf hB
