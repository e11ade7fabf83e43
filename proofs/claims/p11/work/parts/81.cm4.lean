/-! CONDITIONS in the reference: not, within, both, either -/
def mono (g : TS → TS) : Prop := ∀ q b, g q = .inl b → ∃ a, q = .inl a ∧ a ≤ b
theorem mono.comp {f g : TS → TS} (hf : mono f) (hg : mono g) : mono (fun q => f (g q)) := fun q b h => by
  obtain ⟨a, h1, h2⟩ := hf _ b h
  obtain ⟨a2, h3, h4⟩ := hg q a h1
  exact ⟨a2, h3, by omega⟩
theorem mono_tk {n : Nat} {t : Nat → Nat} {c : Nat} : mono (tkS n t c) := fun q b h => by
  cases q with
  | inl a =>
    refine ⟨a, rfl, ?_⟩
    simp only [tkS] at h
    split at h
    · cases h; omega
    · cases h; omega
  | inr f => cases h
theorem mono_mu {n : Nat} {t : Nat → Nat} {c : Nat} : mono (mu n t c) := fun q b h => by
  cases q with
  | inl a =>
    refine ⟨a, rfl, ?_⟩
    simp only [mu] at h
    split at h
    · cases h; omega
    · cases h
  | inr f => cases h
theorem nuG_ge {n : Nat} {t : Nat → Nat} : ∀ {k a v : Nat}, a ≤ (nuG n t k a v).1
  | 0, a, v => Nat.le_refl a
  | k + 1, a, v => by
    rw [nuG]
    split
    · have := nuG_ge (n := n) (t := t) (k := k) (a := a + 1) (v := v * 10 + (tb n t a - 48))
      omega
    · exact Nat.le_refl a
theorem wdG_ge {n : Nat} {t : Nat → Nat} : ∀ {k a : Nat}, a ≤ wdG n t k a
  | 0, a => Nat.le_refl a
  | k + 1, a => by
    rw [wdG]
    split
    · have := wdG_ge (n := n) (t := t) (k := k) (a := a + 1)
      omega
    · exact Nat.le_refl a
theorem mono_nu {n : Nat} {t : Nat → Nat} {lo hi : Nat} : mono (nuS n t lo hi) := fun q b h => by
  cases q with
  | inl a =>
    refine ⟨a, rfl, ?_⟩
    simp only [nuS] at h
    split at h
    · cases h
    · cases h; exact nuG_ge
  | inr f => cases h
theorem mono_cq {n : Nat} {t : Nat → Nat} {v : Int32} : mono (fun q => (cqP n t v q).1) := fun q b h => by
  unfold cqP at h
  dsimp only at h
  split at h
  · exact (mono_nu.comp mono_tk) q b h
  · split at h
    · exact (mono_nu.comp mono_tk) q b h
    · exact (mono_nu.comp mono_mu) q b h
theorem mono_cm {n : Nat} {t : Nat → Nat} {V : Nat → Int32} : mono (fun q => (cmP n t V q).1) := fun q b h => by
  cases q with
  | inr f => cases h
  | inl a =>
    refine ⟨a, rfl, ?_⟩
    simp only [cmP] at h
    split at h
    · cases h
    · obtain ⟨a2, h1, h2⟩ := mono_cq _ b h
      cases h1
      have := wdG_ge (n := n) (t := t) (k := 150) (a := a)
      omega
theorem mono_an {n : Nat} {t : Nat → Nat} {c : Nat} {cb : Bool → Bool → Bool} {fac : TS → TS × Bool} (hf : mono (fun q => (fac q).1)) : ∀ (k : Nat) (x : TS × Bool) (b : Nat), (anL n t c cb fac k x).1 = .inl b → ∃ a, x.1 = .inl a ∧ a ≤ b
  | 0, x, b, h => ⟨b, h, Nat.le_refl b⟩
  | k + 1, x, b, h => by
    rw [anL] at h
    split at h
    · obtain ⟨a1, h1, h2⟩ := mono_an hf k _ b h
      obtain ⟨a2, h3, h4⟩ := hf _ a1 h1
      obtain ⟨a3, h5, h6⟩ := mono_tk _ a2 h3
      exact ⟨a3, h5, by omega⟩
    · exact ⟨b, h, Nat.le_refl b⟩
theorem mono_bo {n : Nat} {t : Nat → Nat} {fac : TS → TS × Bool} (hf : mono (fun q => (fac q).1)) : mono (fun q => (boP n t fac q).1) := fun q b h => by
  obtain ⟨a, h1, h2⟩ := mono_an hf 150 _ b h
  obtain ⟨a2, h3, h4⟩ := hf q a h1
  exact ⟨a2, h3, by omega⟩
theorem mono_ei {n : Nat} {t : Nat → Nat} {fac : TS → TS × Bool} (hf : mono (fun q => (fac q).1)) : mono (fun q => (eiP n t fac q).1) := fun q b h => by
  obtain ⟨a, h1, h2⟩ := mono_an (mono_bo hf) 150 _ b h
  obtain ⟨a2, h3, h4⟩ := mono_bo hf q a h1
  exact ⟨a2, h3, by omega⟩
theorem mono_fa {n : Nat} {t : Nat → Nat} {V : Nat → Int32} : ∀ r, mono (fun q => (faP n t V r q).1)
  | 0 => mono_cm
  | r + 1 => fun q b h => by
    dsimp only at h
    rw [faP] at h
    dsimp only at h
    split at h
    · exact ((mono_fa r).comp mono_tk) q b h
    · split at h
      · exact (mono_mu.comp ((mono_ei (mono_fa r)).comp mono_tk)) q b h
      · exact mono_cm q b h
def RdM (dd A K u X : Nat) (d n : Nat) (t : Nat → Nat) (y : Me) (dep : Nat) (fac : TS → TS × Bool) : Prop := ∀ (M : Mm) (Q : Po) (q : TS), TM n t M q → VX dd A K u X M → M 57 26 = nI dep → (∀ M' b, EqT M M' → TM n t M' (fac q).1 → (okB (fac q).1 = true → b = (fac q).2) → Q M' (some (.int (bI b)))) → Call d y [.ref 57] M Q
theorem EqT.back {M M1 M3 : Mm} {v w : Int32} (h1 : EqT M M1) (h3 : EqT (mset M1 57 26 v) M3) (hw : w = M 57 26) : EqT M (mset M3 57 26 w) := fun k j hk => by
  by_cases z : k = 57 ∧ j = 26
  · obtain ⟨rfl, rfl⟩ := z
    rw [mset_at]
    exact hw
  · rw [mset_off z, h3 k j hk, mset_off z]
    exact h1 k j hk
theorem SM_both {dd A K u X : Nat} {d n : Nat} {t : Nat → Nat} {dep : Nat} {fac : TS → TS × Bool} (hm : mono (fun q => (fac q).1)) (hf : RdM dd A K u X (d + 2) n t mM_factor dep fac) : RdM dd A K u X (d + 3) n t mM_both dep (fun q => anL n t 38 and fac 150 (fac q)) := by
  intro M Q q hT hV h26 h
  dsimp only at h
  have hn := hT.1.1
  refine Call_of (m := mM_both) [some (.ref 57), none, none] rfl (fun G => Nat.le_of_ble_eq_true rfl) (fun G => rfl) ?_
  refine g_aload_n dX10_both_0 rfl ?_
  refine g_call0 dX10_both_1 clM_factor ml_M_314 gc10 rfl rfl (by decide) (Nat.le_of_ble_eq_true rfl) ?_
  refine hf M _ q hT hV h26 (fun M1 b hE1 hT1 hb => ?_)
  refine g_ist3_1 dX10_both_4 (by decide) rfl ?_
  suffices hloop : ∀ k x b M', (∀ a, x.1 = .inl a → n ≤ a + k) → EqT M M' → TM n t M' x.1 → (okB x.1 = true → b = x.2) → anL n t 38 and fac 150 (fac q) = anL n t 38 and fac k x → Go mM_both (d + 3) Q 5 [some (.ref 57), some (.int (bI b)), none] [] M' by
    exact hloop 150 (fac q) b M1 (fun a _ => by omega) hE1 hT1 hb rfl
  clear hT1 hb hE1 b M1
  have hdone : ∀ x b M', tk n t 38 x.1 = false → EqT M M' → TM n t M' x.1 → (okB x.1 = true → b = x.2) → anL n t 38 and fac 150 (fac q) = x → Go mM_both (d + 3) Q 5 [some (.ref 57), some (.int (bI b)), none] [] M' := by
    intro x b M' c hE hT1 hb hg
    rw [hg] at h
    refine g_aload_n dX10_both_5 rfl ?_
    refine g_bipush (nI 38) dX10_both_6 kb_38 ?_
    refine g_call1 dX10_both_8 clM_takes ml_M_257 gc10 rfl rfl (by decide) (Nat.le_of_ble_eq_true rfl) ?_
    refine SM_takes (c := 38) (by omega) hT1 (fun M2 hE2 hT2 => ?_)
    rw [tkS_f c] at hT2
    rw [c]
    refine g_if_eq_ff 36 dX10_both_11 (by decide) ?_
    refine g_iload_n dX10_both_36 rfl ?_
    refine g_ireturn dX10_both_37 rfl (by first | rfl | exact nar_bI _) ?_
    exact h M2 b (hE.tr hE2) hT2 hb
  intro k
  induction k with
  | zero =>
    intro x b M' hk hE hT1 hb hg
    refine hdone x b M' ?_ hE hT1 hb hg
    cases hx : x.1 with
    | inr f => rfl
    | inl a =>
      have := hk a hx
      refine decide_eq_false (fun z => ?_)
      have := tb_lt z (by omega)
      omega
  | succ k ih =>
    intro x b M' hk hE hT1 hb hg
    by_cases c : tk n t 38 x.1 = true
    · have hg := hg.trans (show anL n t 38 and fac (k + 1) x = anL n t 38 and fac k ((fac (tkS n t 38 x.1)).1, and x.2 (fac (tkS n t 38 x.1)).2) by rw [anL, if_pos c])
      have hbx := hb (tk_ok c)
      refine g_aload_n dX10_both_5 rfl ?_
      refine g_bipush (nI 38) dX10_both_6 kb_38 ?_
      refine g_call1 dX10_both_8 clM_takes ml_M_257 gc10 rfl rfl (by decide) (Nat.le_of_ble_eq_true rfl) ?_
      refine SM_takes (c := 38) (by omega) hT1 (fun M2 hE2 hT2 => ?_)
      rw [c]
      refine g_if_eq_tt 36 dX10_both_11 (by decide) ?_
      refine g_aload_n dX10_both_14 rfl ?_
      refine g_call0 dX10_both_15 clM_factor ml_M_314 gc10 rfl rfl (by decide) (Nat.le_of_ble_eq_true rfl) ?_
      refine hf M2 _ _ hT2 (hV.eqT (hE.tr hE2)) (by rw [(hE.tr hE2) 57 26 (by omega)]; exact h26) (fun M3 b2 hE3 hT3 hb2 => ?_)
      have hn2 : ∀ b3, (okB (fac (tkS n t 38 x.1)).1 = true → b3 = and x.2 (fac (tkS n t 38 x.1)).2) → Go mM_both (d + 3) Q 5 [some (.ref 57), some (.int (bI b3)), some (.int (bI b2))] [] M3 := by
        intro b3 hb3
        refine Go_sub [some (.ref 57), some (.int (bI b3)), none] (by simp [subL]) (ih ((fac (tkS n t 38 x.1)).1, and x.2 (fac (tkS n t 38 x.1)).2) b3 M3 (fun a ha => ?_) (hE.tr (hE2.tr hE3)) hT3 hb3 hg)
        obtain ⟨a1, h1, h2⟩ := hm _ a ha
        obtain ⟨a0, h3, h4, h5, h6⟩ := tkS_t c (by omega)
        rw [h4] at h1
        cases h1
        have := hk a0 h3
        omega
      rw [← hbx] at hn2
      refine g_ist3_2 dX10_both_18 (by decide) rfl ?_
      refine g_iload_n dX10_both_19 rfl ?_
      refine g_if_eq_b 31 dX10_both_20 (by decide) (fun c20 => ?_) (fun c20 => ?_)
      · refine g_iconst (nI 0) dX10_both_31 ki_0 ?_
        refine g_ist3_1 dX10_both_32 (by decide) rfl ?_
        refine g_goto 5 dX10_both_33 (by decide) ?_
        exact hn2 false (fun hok => by rw [c20]; simp)
      · skip
        refine g_iload_n dX10_both_23 rfl ?_
        refine g_if_eq_b 31 dX10_both_24 (by decide) (fun c24 => ?_) (fun c24 => ?_)
        · refine g_iconst (nI 0) dX10_both_31 ki_0 ?_
          refine g_ist3_1 dX10_both_32 (by decide) rfl ?_
          refine g_goto 5 dX10_both_33 (by decide) ?_
          exact hn2 false (fun hok => by rw [← hb2 hok, c20, c24]; rfl)
        · refine g_iconst (nI 1) dX10_both_27 ki_1 ?_
          refine g_goto 32 dX10_both_28 (by decide) ?_
          refine g_ist3_1 dX10_both_32 (by decide) rfl ?_
          refine g_goto 5 dX10_both_33 (by decide) ?_
          exact hn2 true (fun hok => by rw [← hb2 hok, c20, c24]; rfl)
    · exact hdone x b M' (Bool.eq_false_iff.mpr c) hE hT1 hb (hg.trans (show anL n t 38 and fac (k + 1) x = x by rw [anL, if_neg c]))
theorem SM_either {dd A K u X : Nat} {d n : Nat} {t : Nat → Nat} {dep : Nat} {fac : TS → TS × Bool} (hm : mono (fun q => (fac q).1)) (hf : RdM dd A K u X (d + 2) n t mM_both dep fac) : RdM dd A K u X (d + 3) n t mM_either dep (fun q => anL n t 124 or fac 150 (fac q)) := by
  intro M Q q hT hV h26 h
  dsimp only at h
  have hn := hT.1.1
  refine Call_of (m := mM_either) [some (.ref 57), none, none] rfl (fun G => Nat.le_of_ble_eq_true rfl) (fun G => rfl) ?_
  refine g_aload_n dX10_either_0 rfl ?_
  refine g_call0 dX10_either_1 clM_both ml_M_324 gc10 rfl rfl (by decide) (Nat.le_of_ble_eq_true rfl) ?_
  refine hf M _ q hT hV h26 (fun M1 b hE1 hT1 hb => ?_)
  refine g_ist3_1 dX10_either_4 (by decide) rfl ?_
  suffices hloop : ∀ k x b M', (∀ a, x.1 = .inl a → n ≤ a + k) → EqT M M' → TM n t M' x.1 → (okB x.1 = true → b = x.2) → anL n t 124 or fac 150 (fac q) = anL n t 124 or fac k x → Go mM_either (d + 3) Q 5 [some (.ref 57), some (.int (bI b)), none] [] M' by
    exact hloop 150 (fac q) b M1 (fun a _ => by omega) hE1 hT1 hb rfl
  clear hT1 hb hE1 b M1
  have hdone : ∀ x b M', tk n t 124 x.1 = false → EqT M M' → TM n t M' x.1 → (okB x.1 = true → b = x.2) → anL n t 124 or fac 150 (fac q) = x → Go mM_either (d + 3) Q 5 [some (.ref 57), some (.int (bI b)), none] [] M' := by
    intro x b M' c hE hT1 hb hg
    rw [hg] at h
    refine g_aload_n dX10_either_5 rfl ?_
    refine g_bipush (nI 124) dX10_either_6 kb_124 ?_
    refine g_call1 dX10_either_8 clM_takes ml_M_257 gc10 rfl rfl (by decide) (Nat.le_of_ble_eq_true rfl) ?_
    refine SM_takes (c := 124) (by omega) hT1 (fun M2 hE2 hT2 => ?_)
    rw [tkS_f c] at hT2
    rw [c]
    refine g_if_eq_ff 36 dX10_either_11 (by decide) ?_
    refine g_iload_n dX10_either_36 rfl ?_
    refine g_ireturn dX10_either_37 rfl (by first | rfl | exact nar_bI _) ?_
    exact h M2 b (hE.tr hE2) hT2 hb
  intro k
  induction k with
  | zero =>
    intro x b M' hk hE hT1 hb hg
    refine hdone x b M' ?_ hE hT1 hb hg
    cases hx : x.1 with
    | inr f => rfl
    | inl a =>
      have := hk a hx
      refine decide_eq_false (fun z => ?_)
      have := tb_lt z (by omega)
      omega
  | succ k ih =>
    intro x b M' hk hE hT1 hb hg
    by_cases c : tk n t 124 x.1 = true
    · have hg := hg.trans (show anL n t 124 or fac (k + 1) x = anL n t 124 or fac k ((fac (tkS n t 124 x.1)).1, or x.2 (fac (tkS n t 124 x.1)).2) by rw [anL, if_pos c])
      have hbx := hb (tk_ok c)
      refine g_aload_n dX10_either_5 rfl ?_
      refine g_bipush (nI 124) dX10_either_6 kb_124 ?_
      refine g_call1 dX10_either_8 clM_takes ml_M_257 gc10 rfl rfl (by decide) (Nat.le_of_ble_eq_true rfl) ?_
      refine SM_takes (c := 124) (by omega) hT1 (fun M2 hE2 hT2 => ?_)
      rw [c]
      refine g_if_eq_tt 36 dX10_either_11 (by decide) ?_
      refine g_aload_n dX10_either_14 rfl ?_
      refine g_call0 dX10_either_15 clM_both ml_M_324 gc10 rfl rfl (by decide) (Nat.le_of_ble_eq_true rfl) ?_
      refine hf M2 _ _ hT2 (hV.eqT (hE.tr hE2)) (by rw [(hE.tr hE2) 57 26 (by omega)]; exact h26) (fun M3 b2 hE3 hT3 hb2 => ?_)
      have hn2 : ∀ b3, (okB (fac (tkS n t 124 x.1)).1 = true → b3 = or x.2 (fac (tkS n t 124 x.1)).2) → Go mM_either (d + 3) Q 5 [some (.ref 57), some (.int (bI b3)), some (.int (bI b2))] [] M3 := by
        intro b3 hb3
        refine Go_sub [some (.ref 57), some (.int (bI b3)), none] (by simp [subL]) (ih ((fac (tkS n t 124 x.1)).1, or x.2 (fac (tkS n t 124 x.1)).2) b3 M3 (fun a ha => ?_) (hE.tr (hE2.tr hE3)) hT3 hb3 hg)
        obtain ⟨a1, h1, h2⟩ := hm _ a ha
        obtain ⟨a0, h3, h4, h5, h6⟩ := tkS_t c (by omega)
        rw [h4] at h1
        cases h1
        have := hk a0 h3
        omega
      rw [← hbx] at hn2
      refine g_ist3_2 dX10_either_18 (by decide) rfl ?_
      refine g_iload_n dX10_either_19 rfl ?_
      refine g_if_ne_b 27 dX10_either_20 (by decide) (fun c20 => ?_) (fun c20 => ?_)
      · refine g_iconst (nI 1) dX10_either_27 ki_1 ?_
        refine g_goto 32 dX10_either_28 (by decide) ?_
        refine g_ist3_1 dX10_either_32 (by decide) rfl ?_
        refine g_goto 5 dX10_either_33 (by decide) ?_
        exact hn2 true (fun hok => by rw [c20]; simp)
      · skip
        refine g_iload_n dX10_either_23 rfl ?_
        refine g_if_eq_b 31 dX10_either_24 (by decide) (fun c24 => ?_) (fun c24 => ?_)
        · refine g_iconst (nI 0) dX10_either_31 ki_0 ?_
          refine g_ist3_1 dX10_either_32 (by decide) rfl ?_
          refine g_goto 5 dX10_either_33 (by decide) ?_
          exact hn2 false (fun hok => by rw [← hb2 hok, c20, c24]; rfl)
        · refine g_iconst (nI 1) dX10_either_27 ki_1 ?_
          refine g_goto 32 dX10_either_28 (by decide) ?_
          refine g_ist3_1 dX10_either_32 (by decide) rfl ?_
          refine g_goto 5 dX10_either_33 (by decide) ?_
          exact hn2 true (fun hok => by rw [← hb2 hok, c20, c24]; rfl)
    · exact hdone x b M' (Bool.eq_false_iff.mpr c) hE hT1 hb (hg.trans (show anL n t 124 or fac (k + 1) x = x by rw [anL, if_neg c]))
theorem SM_one {dd A K u X n : Nat} {t : Nat → Nat} : ∀ r, r ≤ 4 → ∀ d, RdM dd A K u X (d + 3 * r + 8) n t mM_factor (4 - r) (faP n t (fun w => nI (vwF A K u X w)) r) := by
  intro r
  induction r with
  | zero =>
    intro _ d M Q q hT hV h26 h
    have h26 : M 57 26 = nI 4 := h26
    refine Call_of (m := mM_factor) [some (.ref 57), none] rfl (fun G => Nat.le_of_ble_eq_true rfl) (fun G => rfl) ?_
    refine g_aload_n dX10_factor_0 rfl ?_
    refine g_geti (j := 26) dX10_factor_1 gc10 rfl (by decide) rfl (by decide) fl_M_311 ?_
    try simp (disch := omega) only [h26]
    refine g_iconst (nI 4) dX10_factor_4 ki_4 ?_
    refine g_icmp_ge_n 52 dX10_factor_5 (by decide) (by omega) (by omega) (fun c5 => ?_) (fun c5 => ?_)
    · refine g_aload_n dX10_factor_52 rfl ?_
      refine g_geti (j := 26) dX10_factor_53 gc10 rfl (by decide) rfl (by decide) fl_M_311 ?_
      try simp (disch := omega) only [h26]
      refine g_iconst (nI 4) dX10_factor_56 ki_4 ?_
      refine g_icmp_ge_n 102 dX10_factor_57 (by decide) (by omega) (by omega) (fun c57 => ?_) (fun c57 => ?_)
      · refine g_aload_n dX10_factor_102 rfl ?_
        refine g_call0 dX10_factor_103 clM_compared ml_M_321 gc10 rfl rfl (by decide) (Nat.le_of_ble_eq_true rfl) ?_
        refine SM_compared hT hV (fun M' b hE hT' hb => ?_)
        refine g_ireturn dX10_factor_106 rfl (by first | rfl | exact nar_bI _) ?_
        exact h M' b hE hT' hb
      · exact absurd c57 (by omega)
    · exact absurd c5 (by omega)
  | succ r ih =>
    intro hr4 d M Q q hT hV h26 h
    have hi := ih (by omega)
    have h1 : RdM dd A K u X (d + 3 * r + 10) n t mM_factor (4 - r) (faP n t (fun w => nI (vwF A K u X w)) r) := by
      have := hi (d + 2)
      rw [show d + 2 + 3 * r + 8 = d + 3 * r + 10 by omega] at this
      exact this
    have h2 : RdM dd A K u X (d + 3 * r + 10) n t mM_either (4 - r) (eiP n t (faP n t (fun w => nI (vwF A K u X w)) r)) := by
      have := SM_either (mono_bo (mono_fa r)) (SM_both (mono_fa r) (hi d))
      exact this
    rw [show d + 3 * (r + 1) + 8 = d + 3 * r + 10 + 1 by omega]
    generalize hdp : 4 - (r + 1) = dp at h26
    rw [faP] at h
    dsimp only at h
    have h26' : ∀ M', EqT M M' → M' 57 26 = nI dp := fun M' hE => by rw [hE 57 26 (by omega)]; exact h26
    have hcmp : ∀ M3, EqT M M3 → TM n t M3 q → tk n t 33 q = false → tk n t 40 q = false → Go mM_factor (d + 3 * r + 10 + 1) Q 102 [some (.ref 57), none] [] M3 := by
      intro M3 hE3 hT3 c1 c2
      rw [if_neg (by rw [c1]; decide), if_neg (by rw [c2]; decide)] at h
      refine g_aload_n dX10_factor_102 rfl ?_
      refine g_call0 dX10_factor_103 clM_compared ml_M_321 gc10 rfl rfl (by decide) (Nat.le_of_ble_eq_true rfl) ?_
      refine SM_compared (d := d + 3 * r + 6) hT3 (hV.eqT hE3) (fun M' b hE hT' hb => ?_)
      refine g_ireturn dX10_factor_106 rfl (by first | rfl | exact nar_bI _) ?_
      exact h M' b (hE3.tr hE) hT' hb
    have hmid : ∀ M3, EqT M M3 → TM n t M3 q → tk n t 33 q = false → Go mM_factor (d + 3 * r + 10 + 1) Q 52 [some (.ref 57), none] [] M3 := by
      intro M3 hE3 hT3 c1
      have h26 := h26' M3 hE3
      refine g_aload_n dX10_factor_52 rfl ?_
      refine g_geti (j := 26) dX10_factor_53 gc10 rfl (by decide) rfl (by decide) fl_M_311 ?_
      try simp (disch := omega) only [h26]
      refine g_iconst (nI 4) dX10_factor_56 ki_4 ?_
      refine g_icmp_ge_n 102 dX10_factor_57 (by decide) (by omega) (by omega) (fun c57 => ?_) (fun c57 => ?_)
      · exact absurd c57 (by omega)
      · refine g_aload_n dX10_factor_60 rfl ?_
        refine g_bipush (nI 40) dX10_factor_61 kb_40 ?_
        refine g_call1 dX10_factor_63 clM_takes ml_M_257 gc10 rfl rfl (by decide) (Nat.le_of_ble_eq_true rfl) ?_
        refine SM_takes (c := 40) (by omega) hT3 (fun M4 hE4 hT4 => ?_)
        have h26 := h26' M4 (hE3.tr hE4)
        by_cases c2 : tk n t 40 q = true
        · rw [if_neg (by rw [c1]; decide), if_pos c2] at h
          dsimp only at h
          rw [c2]
          refine g_if_eq_tt 102 dX10_factor_66 (by decide) ?_
          refine g_aload_n dX10_factor_69 rfl ?_
          refine g_dup dX10_factor_70 rfl ?_
          refine g_geti (j := 26) dX10_factor_71 gc10 rfl (by decide) rfl (by decide) fl_M_311 ?_
          try simp (disch := omega) only [h26]
          refine g_iconst (nI 1) dX10_factor_74 ki_1 ?_
          first | refine g_iadd_n dX10_factor_75 ?_ | refine g_iadd dX10_factor_75 ?_
          refine g_puti (j := 26) dX10_factor_76 gc10 rfl (by decide) rfl (by decide) fl_M_311 rfl (tyX10_ok 26 (by decide)) (by first | rfl | exact nar_bI _) rfl ?_
          refine g_aload_n dX10_factor_79 rfl ?_
          refine g_call0 dX10_factor_80 clM_either ml_M_318 gc10 rfl rfl (by decide) (Nat.le_of_ble_eq_true rfl) ?_
          rw [show dp + 1 = 4 - r by omega]
          refine h2 _ _ _ (hT4.off (mset_ne (by decide)) (fun j hj => mset_off (by omega))) ((hV.eqT (hE3.tr hE4)).of (mset_ne (by decide)) (mset_off (by omega))) (mset_at _ _ _ _) (fun M5 b hE5 hT5 hb => ?_)
          refine g_ist2_1 dX10_factor_83 (by decide) rfl ?_
          refine g_aload_n dX10_factor_84 rfl ?_
          refine g_bipush (nI 41) dX10_factor_85 kb_41 ?_
          refine g_call1 dX10_factor_87 clM_must ml_M_276 gc10 rfl rfl (by decide) (Nat.le_of_ble_eq_true rfl) ?_
          refine SM_must (c := 41) (by omega) hT5 (fun M6 hE6 hT6 => ?_)
          have hE7 := hE5.tr hE6
          have e26 : M6 57 26 = nI (4 - r) := by rw [hE7 57 26 (by omega), mset_at]
          refine g_aload_n dX10_factor_90 rfl ?_
          refine g_dup dX10_factor_91 rfl ?_
          refine g_geti (j := 26) dX10_factor_92 gc10 rfl (by decide) rfl (by decide) fl_M_311 ?_
          try simp (disch := omega) only [e26]
          refine g_iconst (nI 1) dX10_factor_95 ki_1 ?_
          first | refine g_isub_n dX10_factor_96 (by omega) ?_ | refine g_isub dX10_factor_96 ?_
          refine g_puti (j := 26) dX10_factor_97 gc10 rfl (by decide) rfl (by decide) fl_M_311 rfl (tyX10_ok 26 (by decide)) (by first | rfl | exact nar_bI _) rfl ?_
          refine g_iload_n dX10_factor_100 rfl ?_
          refine g_ireturn dX10_factor_101 rfl (by first | rfl | exact nar_bI _) ?_
          refine h _ b (EqT.back (hE3.tr hE4) hE7 ?_) (hT6.off (mset_ne (by decide)) (fun j hj => mset_off (by omega))) (fun hok => hb (ok_mu hok))
          rw [h26' M EqT.rf]
          exact congrArg nI (by omega)
        · have c2 := Bool.eq_false_iff.mpr c2
          rw [tkS_f c2] at hT4
          rw [c2]
          refine g_if_eq_ff 102 dX10_factor_66 (by decide) ?_
          exact hcmp M4 (hE3.tr hE4) hT4 c1 c2
    refine Call_of (m := mM_factor) [some (.ref 57), none] rfl (fun G => Nat.le_of_ble_eq_true rfl) (fun G => rfl) ?_
    refine g_aload_n dX10_factor_0 rfl ?_
    refine g_geti (j := 26) dX10_factor_1 gc10 rfl (by decide) rfl (by decide) fl_M_311 ?_
    try simp (disch := omega) only [h26]
    refine g_iconst (nI 4) dX10_factor_4 ki_4 ?_
    refine g_icmp_ge_n 52 dX10_factor_5 (by decide) (by omega) (by omega) (fun c5 => ?_) (fun c5 => ?_)
    · exact absurd c5 (by omega)
    · refine g_aload_n dX10_factor_8 rfl ?_
      refine g_bipush (nI 33) dX10_factor_9 kb_33 ?_
      refine g_call1 dX10_factor_11 clM_takes ml_M_257 gc10 rfl rfl (by decide) (Nat.le_of_ble_eq_true rfl) ?_
      refine SM_takes (c := 33) (by omega) hT (fun M4 hE4 hT4 => ?_)
      have h26 := h26' M4 hE4
      by_cases c1 : tk n t 33 q = true
      · rw [if_pos c1] at h
        dsimp only at h
        rw [c1]
        refine g_if_eq_tt 52 dX10_factor_14 (by decide) ?_
        refine g_aload_n dX10_factor_17 rfl ?_
        refine g_dup dX10_factor_18 rfl ?_
        refine g_geti (j := 26) dX10_factor_19 gc10 rfl (by decide) rfl (by decide) fl_M_311 ?_
        try simp (disch := omega) only [h26]
        refine g_iconst (nI 1) dX10_factor_22 ki_1 ?_
        first | refine g_iadd_n dX10_factor_23 ?_ | refine g_iadd dX10_factor_23 ?_
        refine g_puti (j := 26) dX10_factor_24 gc10 rfl (by decide) rfl (by decide) fl_M_311 rfl (tyX10_ok 26 (by decide)) (by first | rfl | exact nar_bI _) rfl ?_
        refine g_aload_n dX10_factor_27 rfl ?_
        refine g_call0 dX10_factor_28 clM_factor ml_M_314 gc10 rfl rfl (by decide) (Nat.le_of_ble_eq_true rfl) ?_
        rw [show dp + 1 = 4 - r by omega]
        refine h1 _ _ _ (hT4.off (mset_ne (by decide)) (fun j hj => mset_off (by omega))) ((hV.eqT hE4).of (mset_ne (by decide)) (mset_off (by omega))) (mset_at _ _ _ _) (fun M5 b hE5 hT5 hb => ?_)
        have e26 : M5 57 26 = nI (4 - r) := by rw [hE5 57 26 (by omega), mset_at]
        have hE8 : EqT M (mset M5 57 26 (nI (4 - r - 1))) := EqT.back hE4 hE5 (by rw [h26' M EqT.rf]; exact congrArg nI (by omega))
        have hT8 : TM n t (mset M5 57 26 (nI (4 - r - 1))) (faP n t (fun w => nI (vwF A K u X w)) r (tkS n t 33 q)).1 := hT5.off (mset_ne (by decide)) (fun j hj => mset_off (by omega))
        refine g_ist2_1 dX10_factor_31 (by decide) rfl ?_
        refine g_aload_n dX10_factor_32 rfl ?_
        refine g_dup dX10_factor_33 rfl ?_
        refine g_geti (j := 26) dX10_factor_34 gc10 rfl (by decide) rfl (by decide) fl_M_311 ?_
        try simp (disch := omega) only [e26]
        refine g_iconst (nI 1) dX10_factor_37 ki_1 ?_
        first | refine g_isub_n dX10_factor_38 (by omega) ?_ | refine g_isub dX10_factor_38 ?_
        refine g_puti (j := 26) dX10_factor_39 gc10 rfl (by decide) rfl (by decide) fl_M_311 rfl (tyX10_ok 26 (by decide)) (by first | rfl | exact nar_bI _) rfl ?_
        refine g_iload_n dX10_factor_42 rfl ?_
        refine g_if_ne_b 50 dX10_factor_43 (by decide) (fun c43 => ?_) (fun c43 => ?_)
        · refine g_iconst (nI 0) dX10_factor_50 ki_0 ?_
          refine g_ireturn dX10_factor_51 rfl (by first | rfl | exact nar_bI _) ?_
          exact h _ false hE8 hT8 (fun hok => by rw [← hb hok, c43]; rfl)
        · refine g_iconst (nI 1) dX10_factor_46 ki_1 ?_
          refine g_goto 51 dX10_factor_47 (by decide) ?_
          refine g_ireturn dX10_factor_51 rfl (by first | rfl | exact nar_bI _) ?_
          exact h _ true hE8 hT8 (fun hok => by rw [← hb hok, c43]; rfl)
      · have c1 := Bool.eq_false_iff.mpr c1
        rw [tkS_f c1] at hT4
        rw [c1]
        refine g_if_eq_ff 52 dX10_factor_14 (by decide) ?_
        exact hmid M4 hE4 hT4 c1
