/-! CONDITIONS: both, either, within; in the class -/
def anL (n : Nat) (t : Nat → Nat) (c : Nat) (cb : Bool → Bool → Bool) (fac : TS → TS × Bool) : Nat → TS × Bool → TS × Bool
  | 0, x => x
  | k + 1, x => if tk n t c x.1 = true then anL n t c cb fac k ((fac (tkS n t c x.1)).1, cb x.2 (fac (tkS n t c x.1)).2) else x
def boP (n : Nat) (t : Nat → Nat) (fac : TS → TS × Bool) (q : TS) : TS × Bool := anL n t 38 and fac 150 (fac q)
def eiP (n : Nat) (t : Nat → Nat) (fac : TS → TS × Bool) (q : TS) : TS × Bool := anL n t 124 or (boP n t fac) 150 (boP n t fac q)
def faP (n : Nat) (t : Nat → Nat) (V : Nat → Int32) : Nat → TS → TS × Bool
  | 0 => cmP n t V
  | r + 1 => fun q => if tk n t 33 q = true then ((faP n t V r (tkS n t 33 q)).1, !(faP n t V r (tkS n t 33 q)).2) else if tk n t 40 q = true then (mu n t 41 (eiP n t (faP n t V r) (tkS n t 40 q)).1, (eiP n t (faP n t V r) (tkS n t 40 q)).2) else cmP n t V q
theorem anL_st {n : Nat} {t : Nat → Nat} {c : Nat} {cb cb' : Bool → Bool → Bool} {fac fac' : TS → TS × Bool} (hf : ∀ q, (fac q).1 = (fac' q).1) : ∀ {k : Nat} {x x' : TS × Bool}, x.1 = x'.1 → (anL n t c cb fac k x).1 = (anL n t c cb' fac' k x').1
  | 0, x, x', h => h
  | k + 1, x, x', h => by
    rw [anL, anL, h]
    split
    · exact anL_st hf (hf _)
    · exact h
theorem boP_st {n : Nat} {t : Nat → Nat} {fac fac' : TS → TS × Bool} (hf : ∀ q, (fac q).1 = (fac' q).1) (q : TS) : (boP n t fac q).1 = (boP n t fac' q).1 := anL_st hf (hf q)
theorem eiP_st {n : Nat} {t : Nat → Nat} {fac fac' : TS → TS × Bool} (hf : ∀ q, (fac q).1 = (fac' q).1) (q : TS) : (eiP n t fac q).1 = (eiP n t fac' q).1 := anL_st (boP_st hf) (boP_st hf q)
theorem cmP_st {n : Nat} {t : Nat → Nat} (V V' : Nat → Int32) (q : TS) : (cmP n t V q).1 = (cmP n t V' q).1 := by
  cases q with
  | inl a =>
    simp only [cmP]
    split
    · rfl
    · unfold cqP
      split
      · rfl
      · split <;> rfl
  | inr f => rfl
theorem faP_st {n : Nat} {t : Nat → Nat} (V V' : Nat → Int32) : ∀ r q, (faP n t V r q).1 = (faP n t V' r q).1
  | 0, q => cmP_st V V' q
  | r + 1, q => by
    rw [faP, faP]
    dsimp only
    split
    · exact faP_st V V' r _
    · split
      · show mu n t 41 _ = mu n t 41 _
        rw [eiP_st (faP_st V V' r)]
      · exact cmP_st V V' q
def RdC (d n : Nat) (t : Nat → Nat) (V : Nat → Int32) (y : Me) (dep : Nat) (fac : TS → TS × Bool) : Prop := ∀ (M : Mm) (Q : Po) (q : TS), TC n t M q → (∀ w, w < 6 → M 51 w = V w) → (∀ M' b, EqO [41] M M' → TC n t M' (fac q).1 → (okB (fac q).1 = true → b = (fac q).2) → Q M' (some (.int (bI b)))) → Call d y [.ref 50, .int (nI dep)] M Q
theorem SC_readBoth {d n : Nat} {t : Nat → Nat} {V : Nat → Int32} {dep : Nat} {fac : TS → TS × Bool} (hf : RdC (d + 2) n t V mC_readOne dep fac) : RdC (d + 3) n t V mC_readBoth dep (fun q => anL n t 38 and fac 150 (fac q)) := by
  intro M Q q hT hV h
  dsimp only at h
  refine Call_of (m := mC_readBoth) [some (.ref 50), some (.int (nI dep)), none, none, none] rfl (fun G => Nat.le_of_ble_eq_true rfl) (fun G => rfl) ?_
  refine g_aload_n dX1_readBoth_0 rfl ?_
  refine g_iload_n dX1_readBoth_1 rfl ?_
  refine g_call1 dX1_readBoth_2 clC_readOne ml_C_69 gc1 rfl rfl (by decide) (Nat.le_of_ble_eq_true rfl) ?_
  refine hf M _ q hT hV (fun M1 b hE1 hT1 hb => ?_)
  refine g_ist5_2 dX1_readBoth_5 (by decide) rfl ?_
  refine g_iconst (nI 0) dX1_readBoth_6 ki_0 ?_
  refine g_ist5_3 dX1_readBoth_7 (by decide) rfl ?_
  suffices hloop : ∀ k i x b M', i + k = 150 → EqO [41] M M' → TC n t M' x.1 → (okB x.1 = true → b = x.2) → anL n t 38 and fac 150 (fac q) = anL n t 38 and fac k x → Go mC_readBoth (d + 3) Q 8 [some (.ref 50), some (.int (nI dep)), some (.int (bI b)), some (.int (nI i)), none] [] M' by
    exact hloop 150 0 (fac q) b M1 rfl hE1 hT1 hb rfl
  clear hT1 hb hE1 b M1
  intro k
  induction k with
  | zero =>
    intro i x b M' hik hE hT1 hb hg
    rw [hg, anL] at h
    refine g_iload_n dX1_readBoth_8 rfl ?_
    refine g_sipush (nI 150) dX1_readBoth_9 ks_150 ?_
    refine g_icmp_ge_n 55 dX1_readBoth_12 (by decide) (by omega) (by omega) (fun c12 => ?_) (fun c12 => ?_)
    · refine g_iload_n dX1_readBoth_55 rfl ?_
      refine g_ireturn dX1_readBoth_56 rfl (by first | rfl | exact nar_bI _) ?_
      exact h M' b hE hT1 hb
    · exact absurd hik (by omega)
  | succ k ih =>
    intro i x b M' hik hE hT1 hb hg
    rw [show anL n t 38 and fac (k + 1) x = if tk n t 38 x.1 = true then anL n t 38 and fac k ((fac (tkS n t 38 x.1)).1, and x.2 (fac (tkS n t 38 x.1)).2) else x from rfl] at hg
    refine g_iload_n dX1_readBoth_8 rfl ?_
    refine g_sipush (nI 150) dX1_readBoth_9 ks_150 ?_
    refine g_icmp_ge_n 55 dX1_readBoth_12 (by decide) (by omega) (by omega) (fun c12 => ?_) (fun c12 => ?_)
    · exact absurd hik (by omega)
    · refine g_aload_n dX1_readBoth_15 rfl ?_
      refine g_getr (j := 1) dX1_readBoth_16 gc1 rfl (by decide) rfl (by decide) fl_C_19 ?_
      refine g_bipush (nI 38) dX1_readBoth_19 kb_38 ?_
      refine g_call1 dX1_readBoth_21 clT_takesIf ml_C_66 gc7 rfl rfl (by decide) (Nat.le_of_ble_eq_true rfl) ?_
      refine ST_takesIf (c := 38) (by omega) hT1 (fun M2 hE2 hT2 => ?_)
      by_cases c : tk n t 38 x.1 = true
      · rw [if_pos c] at hg
        have hbx := hb (tk_ok c)
        rw [c]
        refine g_if_eq_tt 55 dX1_readBoth_24 (by decide) ?_
        refine g_aload_n dX1_readBoth_27 rfl ?_
        refine g_iload_n dX1_readBoth_28 rfl ?_
        refine g_call1 dX1_readBoth_29 clC_readOne ml_C_69 gc1 rfl rfl (by decide) (Nat.le_of_ble_eq_true rfl) ?_
        refine hf M2 _ _ hT2 (fun w hw => by rw [hE2 51 (by decide), hE 51 (by decide)]; exact hV w hw) (fun M3 b2 hE3 hT3 hb2 => ?_)
        have hn : ∀ b3, (okB (fac (tkS n t 38 x.1)).1 = true → b3 = and x.2 (fac (tkS n t 38 x.1)).2) → Go mC_readBoth (d + 3) Q 49 [some (.ref 50), some (.int (nI dep)), some (.int (bI b3)), some (.int (nI i)), some (.int (bI b2))] [] M3 := by
          intro b3 hb3
          first | refine g_incn5_3 dX1_readBoth_49 ki_1 (by decide) rfl ?_ | refine g_incg5_3 (nI 1) dX1_readBoth_49 ki_1 (by decide) rfl ?_
          refine g_goto 8 dX1_readBoth_52 (by decide) ?_
          exact Go_sub [some (.ref 50), some (.int (nI dep)), some (.int (bI b3)), some (.int (nI (i + 1))), none] (by simp [subL]) (ih (i + 1) ((fac (tkS n t 38 x.1)).1, and x.2 (fac (tkS n t 38 x.1)).2) b3 M3 (by omega) (hE.tr (hE2.tr hE3)) hT3 hb3 hg)
        rw [← hbx] at hn
        refine g_ist5_4 dX1_readBoth_32 (by decide) rfl ?_
        refine g_iload_n dX1_readBoth_34 rfl ?_
        refine g_if_eq_b 47 dX1_readBoth_35 (by decide) (fun c35 => ?_) (fun c35 => ?_)
        · refine g_iconst (nI 0) dX1_readBoth_47 ki_0 ?_
          refine g_ist5_2 dX1_readBoth_48 (by decide) rfl ?_
          exact hn false (fun hok => by rw [c35]; simp)
        · skip
          refine g_iload dX1_readBoth_38 rfl ?_
          refine g_if_eq_b 47 dX1_readBoth_40 (by decide) (fun c40 => ?_) (fun c40 => ?_)
          · refine g_iconst (nI 0) dX1_readBoth_47 ki_0 ?_
            refine g_ist5_2 dX1_readBoth_48 (by decide) rfl ?_
            exact hn false (fun hok => by rw [← hb2 hok, c35, c40]; rfl)
          · refine g_iconst (nI 1) dX1_readBoth_43 ki_1 ?_
            refine g_goto 48 dX1_readBoth_44 (by decide) ?_
            refine g_ist5_2 dX1_readBoth_48 (by decide) rfl ?_
            exact hn true (fun hok => by rw [← hb2 hok, c35, c40]; rfl)
      · rw [if_neg c] at hg
        have c := Bool.eq_false_iff.mpr c
        rw [tkS_f c] at hT2
        rw [hg] at h
        rw [c]
        refine g_if_eq_ff 55 dX1_readBoth_24 (by decide) ?_
        refine g_iload_n dX1_readBoth_55 rfl ?_
        refine g_ireturn dX1_readBoth_56 rfl (by first | rfl | exact nar_bI _) ?_
        exact h M2 b (hE.tr hE2) hT2 hb
theorem SC_readEither {d n : Nat} {t : Nat → Nat} {V : Nat → Int32} {dep : Nat} {fac : TS → TS × Bool} (hf : RdC (d + 2) n t V mC_readBoth dep fac) : RdC (d + 3) n t V mC_readEither dep (fun q => anL n t 124 or fac 150 (fac q)) := by
  intro M Q q hT hV h
  dsimp only at h
  refine Call_of (m := mC_readEither) [some (.ref 50), some (.int (nI dep)), none, none, none] rfl (fun G => Nat.le_of_ble_eq_true rfl) (fun G => rfl) ?_
  refine g_aload_n dX1_readEither_0 rfl ?_
  refine g_iload_n dX1_readEither_1 rfl ?_
  refine g_call1 dX1_readEither_2 clC_readBoth ml_C_63 gc1 rfl rfl (by decide) (Nat.le_of_ble_eq_true rfl) ?_
  refine hf M _ q hT hV (fun M1 b hE1 hT1 hb => ?_)
  refine g_ist5_2 dX1_readEither_5 (by decide) rfl ?_
  refine g_iconst (nI 0) dX1_readEither_6 ki_0 ?_
  refine g_ist5_3 dX1_readEither_7 (by decide) rfl ?_
  suffices hloop : ∀ k i x b M', i + k = 150 → EqO [41] M M' → TC n t M' x.1 → (okB x.1 = true → b = x.2) → anL n t 124 or fac 150 (fac q) = anL n t 124 or fac k x → Go mC_readEither (d + 3) Q 8 [some (.ref 50), some (.int (nI dep)), some (.int (bI b)), some (.int (nI i)), none] [] M' by
    exact hloop 150 0 (fac q) b M1 rfl hE1 hT1 hb rfl
  clear hT1 hb hE1 b M1
  intro k
  induction k with
  | zero =>
    intro i x b M' hik hE hT1 hb hg
    rw [hg, anL] at h
    refine g_iload_n dX1_readEither_8 rfl ?_
    refine g_sipush (nI 150) dX1_readEither_9 ks_150 ?_
    refine g_icmp_ge_n 55 dX1_readEither_12 (by decide) (by omega) (by omega) (fun c12 => ?_) (fun c12 => ?_)
    · refine g_iload_n dX1_readEither_55 rfl ?_
      refine g_ireturn dX1_readEither_56 rfl (by first | rfl | exact nar_bI _) ?_
      exact h M' b hE hT1 hb
    · exact absurd hik (by omega)
  | succ k ih =>
    intro i x b M' hik hE hT1 hb hg
    rw [show anL n t 124 or fac (k + 1) x = if tk n t 124 x.1 = true then anL n t 124 or fac k ((fac (tkS n t 124 x.1)).1, or x.2 (fac (tkS n t 124 x.1)).2) else x from rfl] at hg
    refine g_iload_n dX1_readEither_8 rfl ?_
    refine g_sipush (nI 150) dX1_readEither_9 ks_150 ?_
    refine g_icmp_ge_n 55 dX1_readEither_12 (by decide) (by omega) (by omega) (fun c12 => ?_) (fun c12 => ?_)
    · exact absurd hik (by omega)
    · refine g_aload_n dX1_readEither_15 rfl ?_
      refine g_getr (j := 1) dX1_readEither_16 gc1 rfl (by decide) rfl (by decide) fl_C_19 ?_
      refine g_bipush (nI 124) dX1_readEither_19 kb_124 ?_
      refine g_call1 dX1_readEither_21 clT_takesIf ml_C_66 gc7 rfl rfl (by decide) (Nat.le_of_ble_eq_true rfl) ?_
      refine ST_takesIf (c := 124) (by omega) hT1 (fun M2 hE2 hT2 => ?_)
      by_cases c : tk n t 124 x.1 = true
      · rw [if_pos c] at hg
        have hbx := hb (tk_ok c)
        rw [c]
        refine g_if_eq_tt 55 dX1_readEither_24 (by decide) ?_
        refine g_aload_n dX1_readEither_27 rfl ?_
        refine g_iload_n dX1_readEither_28 rfl ?_
        refine g_call1 dX1_readEither_29 clC_readBoth ml_C_63 gc1 rfl rfl (by decide) (Nat.le_of_ble_eq_true rfl) ?_
        refine hf M2 _ _ hT2 (fun w hw => by rw [hE2 51 (by decide), hE 51 (by decide)]; exact hV w hw) (fun M3 b2 hE3 hT3 hb2 => ?_)
        have hn : ∀ b3, (okB (fac (tkS n t 124 x.1)).1 = true → b3 = or x.2 (fac (tkS n t 124 x.1)).2) → Go mC_readEither (d + 3) Q 49 [some (.ref 50), some (.int (nI dep)), some (.int (bI b3)), some (.int (nI i)), some (.int (bI b2))] [] M3 := by
          intro b3 hb3
          first | refine g_incn5_3 dX1_readEither_49 ki_1 (by decide) rfl ?_ | refine g_incg5_3 (nI 1) dX1_readEither_49 ki_1 (by decide) rfl ?_
          refine g_goto 8 dX1_readEither_52 (by decide) ?_
          exact Go_sub [some (.ref 50), some (.int (nI dep)), some (.int (bI b3)), some (.int (nI (i + 1))), none] (by simp [subL]) (ih (i + 1) ((fac (tkS n t 124 x.1)).1, or x.2 (fac (tkS n t 124 x.1)).2) b3 M3 (by omega) (hE.tr (hE2.tr hE3)) hT3 hb3 hg)
        rw [← hbx] at hn
        refine g_ist5_4 dX1_readEither_32 (by decide) rfl ?_
        refine g_iload_n dX1_readEither_34 rfl ?_
        refine g_if_ne_b 43 dX1_readEither_35 (by decide) (fun c35 => ?_) (fun c35 => ?_)
        · refine g_iconst (nI 1) dX1_readEither_43 ki_1 ?_
          refine g_goto 48 dX1_readEither_44 (by decide) ?_
          refine g_ist5_2 dX1_readEither_48 (by decide) rfl ?_
          exact hn true (fun hok => by rw [c35]; simp)
        · skip
          refine g_iload dX1_readEither_38 rfl ?_
          refine g_if_eq_b 47 dX1_readEither_40 (by decide) (fun c40 => ?_) (fun c40 => ?_)
          · refine g_iconst (nI 0) dX1_readEither_47 ki_0 ?_
            refine g_ist5_2 dX1_readEither_48 (by decide) rfl ?_
            exact hn false (fun hok => by rw [← hb2 hok, c35, c40]; rfl)
          · refine g_iconst (nI 1) dX1_readEither_43 ki_1 ?_
            refine g_goto 48 dX1_readEither_44 (by decide) ?_
            refine g_ist5_2 dX1_readEither_48 (by decide) rfl ?_
            exact hn true (fun hok => by rw [← hb2 hok, c35, c40]; rfl)
      · rw [if_neg c] at hg
        have c := Bool.eq_false_iff.mpr c
        rw [tkS_f c] at hT2
        rw [hg] at h
        rw [c]
        refine g_if_eq_ff 55 dX1_readEither_24 (by decide) ?_
        refine g_iload_n dX1_readEither_55 rfl ?_
        refine g_ireturn dX1_readEither_56 rfl (by first | rfl | exact nar_bI _) ?_
        exact h M2 b (hE.tr hE2) hT2 hb
theorem SC_one {n : Nat} {t : Nat → Nat} {V : Nat → Int32} : ∀ r, r ≤ 4 → ∀ d, RdC (d + 3 * r + 8) n t V mC_readOne (4 - r) (faP n t V r) := by
  intro r
  induction r with
  | zero =>
    intro _ d M Q q hT hV h
    refine Call_of (m := mC_readOne) [some (.ref 50), some (.int (nI (4 - 0))), none] rfl (fun G => Nat.le_of_ble_eq_true rfl) (fun G => rfl) ?_
    refine g_iload_n dX1_readOne_0 rfl ?_
    refine g_iconst (nI 4) dX1_readOne_1 ki_4 ?_
    refine g_icmp_ge_n 33 dX1_readOne_2 (by decide) (by omega) (by omega) (fun c2 => ?_) (fun c2 => ?_)
    · refine g_iload_n dX1_readOne_33 rfl ?_
      refine g_iconst (nI 4) dX1_readOne_34 ki_4 ?_
      refine g_icmp_ge_n 69 dX1_readOne_35 (by decide) (by omega) (by omega) (fun c35 => ?_) (fun c35 => ?_)
      · refine g_aload_n dX1_readOne_69 rfl ?_
        refine g_call0 dX1_readOne_70 clC_readComparison ml_C_75 gc1 rfl rfl (by decide) (Nat.le_of_ble_eq_true rfl) ?_
        refine SC_readComparison hT hV (fun M' b hE hT' hb => ?_)
        refine g_ireturn dX1_readOne_73 rfl (by first | rfl | exact nar_bI _) ?_
        exact h M' b hE hT' hb
      · exact absurd c35 (by omega)
    · exact absurd c2 (by omega)
  | succ r ih =>
    intro hr4 d M Q q hT hV h
    have hi := ih (by omega)
    have h1 : RdC (d + 3 * r + 10) n t V mC_readOne (4 - r) (faP n t V r) := by
      have := hi (d + 2)
      rw [show d + 2 + 3 * r + 8 = d + 3 * r + 10 by omega] at this
      exact this
    have h2 : RdC (d + 3 * r + 10) n t V mC_readEither (4 - r) (eiP n t (faP n t V r)) := by
      have := SC_readEither (SC_readBoth (hi d))
      exact this
    rw [show d + 3 * (r + 1) + 8 = d + 3 * r + 10 + 1 by omega]
    generalize hdp : 4 - (r + 1) = dp
    rw [faP] at h
    dsimp only at h
    have hcmp : ∀ M3 ls, ls = [some (.ref 50), some (.int (nI dp)), none] → EqO [41] M M3 → TC n t M3 q → tk n t 33 q = false → tk n t 40 q = false → Go mC_readOne (d + 3 * r + 10 + 1) Q 69 ls [] M3 := by
      intro M3 ls el hE3 hT3 c1 c2
      subst el
      rw [if_neg (by rw [c1]; decide), if_neg (by rw [c2]; decide)] at h
      refine g_aload_n dX1_readOne_69 rfl ?_
      refine g_call0 dX1_readOne_70 clC_readComparison ml_C_75 gc1 rfl rfl (by decide) (Nat.le_of_ble_eq_true rfl) ?_
      refine SC_readComparison (d := d + 3 * r + 3) (V := V) hT3 (fun w hw => by rw [hE3 51 (by decide)]; exact hV w hw) (fun M' b hE hT' hb => ?_)
      refine g_ireturn dX1_readOne_73 rfl (by first | rfl | exact nar_bI _) ?_
      exact h M' b (hE3.tr hE) hT' hb
    have hmid : ∀ M3 ls, ls = [some (.ref 50), some (.int (nI dp)), none] → EqO [41] M M3 → TC n t M3 q → tk n t 33 q = false → Go mC_readOne (d + 3 * r + 10 + 1) Q 33 ls [] M3 := by
      intro M3 ls el hE3 hT3 c1
      subst el
      refine g_iload_n dX1_readOne_33 rfl ?_
      refine g_iconst (nI 4) dX1_readOne_34 ki_4 ?_
      refine g_icmp_ge_n 69 dX1_readOne_35 (by decide) (by omega) (by omega) (fun c35 => ?_) (fun c35 => ?_)
      · exact absurd c35 (by omega)
      · refine g_aload_n dX1_readOne_38 rfl ?_
        refine g_getr (j := 1) dX1_readOne_39 gc1 rfl (by decide) rfl (by decide) fl_C_19 ?_
        refine g_bipush (nI 40) dX1_readOne_42 kb_40 ?_
        refine g_call1 dX1_readOne_44 clT_takesIf ml_C_66 gc7 rfl rfl (by decide) (Nat.le_of_ble_eq_true rfl) ?_
        refine ST_takesIf (c := 40) (by omega) hT3 (fun M4 hE4 hT4 => ?_)
        by_cases c2 : tk n t 40 q = true
        · rw [if_neg (by rw [c1]; decide), if_pos c2] at h
          dsimp only at h
          rw [c2]
          refine g_if_eq_tt 69 dX1_readOne_47 (by decide) ?_
          refine g_aload_n dX1_readOne_50 rfl ?_
          refine g_iload_n dX1_readOne_51 rfl ?_
          refine g_iconst (nI 1) dX1_readOne_52 ki_1 ?_
          first | refine g_iadd_n dX1_readOne_53 ?_ | refine g_iadd dX1_readOne_53 ?_
          refine g_call1 dX1_readOne_54 clC_readEither ml_C_38 gc1 rfl rfl (by decide) (Nat.le_of_ble_eq_true rfl) ?_
          rw [show dp + 1 = 4 - r by omega]
          refine h2 M4 _ _ hT4 (fun w hw => by rw [hE4 51 (by decide), hE3 51 (by decide)]; exact hV w hw) (fun M5 b hE5 hT5 hb => ?_)
          refine g_ist3_2 dX1_readOne_57 (by decide) rfl ?_
          refine g_aload_n dX1_readOne_58 rfl ?_
          refine g_getr (j := 1) dX1_readOne_59 gc1 rfl (by decide) rfl (by decide) fl_C_19 ?_
          refine g_bipush (nI 41) dX1_readOne_62 kb_41 ?_
          refine g_call1 dX1_readOne_64 clT_take ml_C_72 gc7 rfl rfl (by decide) (Nat.le_of_ble_eq_true rfl) ?_
          refine ST_take (c := 41) (by omega) hT5 (fun M6 hE6 hT6 => ?_)
          refine g_iload_n dX1_readOne_67 rfl ?_
          refine g_ireturn dX1_readOne_68 rfl (by first | rfl | exact nar_bI _) ?_
          exact h M6 b (hE3.tr (hE4.tr (hE5.tr hE6))) hT6 (fun hok => hb (ok_mu hok))
        · have c2 := Bool.eq_false_iff.mpr c2
          rw [tkS_f c2] at hT4
          rw [c2]
          refine g_if_eq_ff 69 dX1_readOne_47 (by decide) ?_
          exact hcmp M4 _ rfl (hE3.tr hE4) hT4 c1 c2
    refine Call_of (m := mC_readOne) [some (.ref 50), some (.int (nI dp)), none] rfl (fun G => Nat.le_of_ble_eq_true rfl) (fun G => rfl) ?_
    refine g_iload_n dX1_readOne_0 rfl ?_
    refine g_iconst (nI 4) dX1_readOne_1 ki_4 ?_
    refine g_icmp_ge_n 33 dX1_readOne_2 (by decide) (by omega) (by omega) (fun c2 => ?_) (fun c2 => ?_)
    · exact absurd c2 (by omega)
    · refine g_aload_n dX1_readOne_5 rfl ?_
      refine g_getr (j := 1) dX1_readOne_6 gc1 rfl (by decide) rfl (by decide) fl_C_19 ?_
      refine g_bipush (nI 33) dX1_readOne_9 kb_33 ?_
      refine g_call1 dX1_readOne_11 clT_takesIf ml_C_66 gc7 rfl rfl (by decide) (Nat.le_of_ble_eq_true rfl) ?_
      refine ST_takesIf (c := 33) (by omega) hT (fun M4 hE4 hT4 => ?_)
      by_cases c1 : tk n t 33 q = true
      · rw [if_pos c1] at h
        dsimp only at h
        rw [c1]
        refine g_if_eq_tt 33 dX1_readOne_14 (by decide) ?_
        refine g_aload_n dX1_readOne_17 rfl ?_
        refine g_iload_n dX1_readOne_18 rfl ?_
        refine g_iconst (nI 1) dX1_readOne_19 ki_1 ?_
        first | refine g_iadd_n dX1_readOne_20 ?_ | refine g_iadd dX1_readOne_20 ?_
        refine g_call1 dX1_readOne_21 clC_readOne ml_C_69 gc1 rfl rfl (by decide) (Nat.le_of_ble_eq_true rfl) ?_
        rw [show dp + 1 = 4 - r by omega]
        refine h1 M4 _ _ hT4 (fun w hw => by rw [hE4 51 (by decide)]; exact hV w hw) (fun M5 b hE5 hT5 hb => ?_)
        refine g_if_ne_b 31 dX1_readOne_24 (by decide) (fun c24 => ?_) (fun c24 => ?_)
        · refine g_iconst (nI 0) dX1_readOne_31 ki_0 ?_
          refine g_ireturn dX1_readOne_32 rfl (by first | rfl | exact nar_bI _) ?_
          exact h M5 false (hE4.tr hE5) hT5 (fun hok => by rw [← hb hok, c24]; rfl)
        · refine g_iconst (nI 1) dX1_readOne_27 ki_1 ?_
          refine g_goto 32 dX1_readOne_28 (by decide) ?_
          refine g_ireturn dX1_readOne_32 rfl (by first | rfl | exact nar_bI _) ?_
          exact h M5 true (hE4.tr hE5) hT5 (fun hok => by rw [← hb hok, c24]; rfl)
      · have c1 := Bool.eq_false_iff.mpr c1
        rw [tkS_f c1] at hT4
        rw [c1]
        refine g_if_eq_ff 33 dX1_readOne_14 (by decide) ?_
        exact hmid M4 _ rfl hE4 hT4 c1
/-- the whole text, from its first byte, for a duty's values -/
def coP (n : Nat) (t : Nat → Nat) (V : Nat → Int32) : TS × Bool := eiP n t (faP n t V 4) (.inl 0)
def stP (n : Nat) (t : Nat → Nat) : TS := enS n (coP n t (fun _ => 0)).1
theorem coP_st (n : Nat) (t : Nat → Nat) (V : Nat → Int32) : enS n (coP n t V).1 = stP n t := by
  unfold stP coP
  rw [eiP_st (faP_st V (fun _ => 0) 4)]
theorem SC_text {d : Nat} {n : Nat} {t : Nat → Nat} {M : Mm} {Q : Po} {V : Nat → Int32} (hT : TC n t M (.inl 0)) (hV : ∀ w, w < 6 → M 51 w = V w) (h : ∀ M' b, EqO [41] M M' → TC n t M' (coP n t V).1 → (okB (coP n t V).1 = true → b = (coP n t V).2) → Q M' (some (.int (bI b)))) : Call (d + 22) mC_readEither [.ref 50, .int (nI 0)] M Q :=
  SC_readEither (SC_readBoth (SC_one 4 (Nat.le_refl 4) d)) M Q (.inl 0) hT hV h
