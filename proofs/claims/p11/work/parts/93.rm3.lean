/-! RINGS in the reference: ringsOn -/
def befM (z n : Nat) (r : RW) (s : Nat) (q : RW) : Prop := s < z ∨ (s = z ∧ ∃ j, j < n ∧ (∀ i, i < j → q i = r i) ∧ q j < r j)
def pfxM (z n : Nat) (r : RW) (s : Nat) (q : RW) : Prop := s = z ∧ ∀ i, i < n → q i = r i
def EqH (M M' : Mm) : Prop := ∀ k j, ¬ (k = 57 ∧ (j = 16 ∨ j = 17)) → k ≠ 67 → k ≠ 68 → M' k j = M k j
theorem EqH.rf {M : Mm} : EqH M M := fun _ _ _ _ _ => rfl
theorem EqH.tr {M M1 M2 : Mm} (h1 : EqH M M1) (h2 : EqH M1 M2) : EqH M M2 := fun k j h g e => (h2 k j h g e).trans (h1 k j h g e)
theorem EqH.ofG {M M' : Mm} (h : EqG M M') : EqH M M' := fun k j a _ c => h k j a c
theorem EqH.set {M : Mm} {i : Nat} {v : Int32} : EqH M (mset M 67 i v) := fun k j _ b _ => mset_off (fun z => b z.1)
theorem EqH.r58 {M M' : Mm} (h : EqH M M') : M' 58 = M 58 := funext fun j => h 58 j (by omega) (by omega) (by omega)
def RgS (S : BS) (z D n : Nat) : Prop := ∀ (M : Mm) (Q : Po) (r : RW) (m : Nat) (b : RW) (g : Nat), MK (M 58) S → rowOK S r n → (∀ i, i < n → M 67 i = nI (r i)) → BR S M (befM z n r) m b g → (∀ M' m' b' g', EqH M M' → (∀ i, i < n → M' 67 i = M 67 i) → BR S M' (fun s q => befM z n r s q ∨ pfxM z n r s q) m' b' g' → Q M' none) → Call D mM_ringsOn [.ref 57, .int (nI n), .int (nI z)] M Q
theorem SM_ringsS {d : Nat} {S : BS} {z n : Nat} (hH : HM S) (hz : 2 ≤ z ∧ z ≤ 4) (hn : 1 ≤ n ∧ n ≤ z) (ihg : n < z → RgS S z (d + 5) (n + 1)) : RgS S z (d + 6) n := by
  intro M Q r m b g hM hrow h67 hB h
  have hw := hM.wf.nd
  refine Call_of (m := mM_ringsOn) [some (.ref 57), some (.int (nI n)), some (.int (nI z)), none] rfl (fun G => Nat.le_of_ble_eq_true rfl) (fun G => rfl) ?_
  refine g_iload_n dX10_ringsOn_0 rfl ?_
  refine g_iload_n dX10_ringsOn_1 rfl ?_
  refine g_icmp_ne_n 11 dX10_ringsOn_2 (by decide) (by omega) (by omega) (fun c2 => ?_) (fun c2 => ?_)
  · refine g_iconst (nI 0) dX10_ringsOn_11 ki_0 ?_
    refine g_ist4_3 dX10_ringsOn_12 (by decide) rfl ?_
    refine loop_up (P := fun y => ∀ M2 m2 b2 g2, EqH M M2 → (∀ i, i < n → M2 67 i = M 67 i) → BR S M2 (fun s q => befM z n r s q ∨ (pfxM z n r s q ∧ q n < y)) m2 b2 g2 → Go mM_ringsOn (d + 6) Q 13 [some (.ref 57), some (.int (nI n)), some (.int (nI z)), some (.int (nI y))] [] M2) (S 1 0 0) ?_ 0 (Nat.zero_le _) M m b g EqH.rf (fun _ _ => rfl) (BR_keep hB (fun s q hs _ => Or.inl (by
      rcases hs with hs | ⟨_, hs⟩
      · exact hs
      · omega)) (fun _ h2 => Or.inl h2))
    intro y hy ihy M2 m2 b2 g2 hE2 h672 hB2
    have hM2 : MK (M2 58) S := by rw [hE2.r58]; exact hM
    refine g_iload_n dX10_ringsOn_13 rfl ?_
    refine g_aload_n dX10_ringsOn_14 rfl ?_
    refine g_getr (j := 0) dX10_ringsOn_15 gc10 rfl (by decide) rfl (by decide) fl_M_9 ?_
    refine g_iconst (nI 2) dX10_ringsOn_18 ki_2 ?_
    refine g_iald_n dX10_ringsOn_19 (by first | rfl | assumption) (by first | decide | assumption) (by omega) (by omega) ?_
    try simp (disch := omega) only [hM2.nd]
    refine g_icmp_ge_n 53 dX10_ringsOn_20 (by decide) (by omega) (by omega) (fun c20 => ?_) (fun c20 => ?_)
    · refine g_return dX10_ringsOn_53 rfl ?_
      refine h M2 m2 b2 g2 hE2 h672 (BR_keep hB2 (fun s q hs hq => Or.inl ?_) (fun h1 h2 => ?_))
      · rcases hs with hs | hs
        · exact Or.inl hs
        · exact Or.inr ⟨hs, by have := (hq.2.2.1 n (by have := hs.1; omega)).1; omega⟩
      · rcases h2 with h2 | h2
        · exact Or.inl h2
        · exact Or.inr h2.1
    · refine g_aload_n dX10_ringsOn_23 rfl ?_
      refine g_iload_n dX10_ringsOn_24 rfl ?_
      refine g_iload_n dX10_ringsOn_25 rfl ?_
      refine g_call2 dX10_ringsOn_26 clM_follows ml_M_212 gc10 rfl rfl (by decide) (Nat.le_of_ble_eq_true rfl) ?_
      refine SM_follows hM2 (by omega) (by omega) (fun i hi => by rw [h672 i hi]; exact h67 i hi) hrow ?_
      by_cases hf : S 12 y 0 < 8 ∧ S 11 y 0 = S 11 (r 0) 0 ∧ r 0 < y ∧ (∀ j, j < n → S 12 (r j) 0 ≠ S 12 y 0) ∧ mayB S (S 12 y 0) (r (n - 1)) = true
      · rw [show folB S r n y = true from decide_eq_true hf]
        obtain ⟨f1, f2, f3, f4, f5⟩ := hf
        refine g_if_eq_tt 47 dX10_ringsOn_29 (by decide) ?_
        refine g_aload_n dX10_ringsOn_32 rfl ?_
        refine g_getr (j := 14) dX10_ringsOn_33 gc10 rfl (by decide) rfl (by decide) fl_M_38 ?_
        refine g_iload_n dX10_ringsOn_36 rfl ?_
        refine g_iload_n dX10_ringsOn_37 rfl ?_
        refine g_iast_n dX10_ringsOn_38 (by first | rfl | assumption) (by first | decide | assumption) (by omega) (by omega) ?_
        refine g_aload_n dX10_ringsOn_39 rfl ?_
        refine g_iload_n dX10_ringsOn_40 rfl ?_
        refine g_iconst (nI 1) dX10_ringsOn_41 ki_1 ?_
        first | refine g_iadd_n dX10_ringsOn_42 ?_ | refine g_iadd dX10_ringsOn_42 ?_
        refine g_iload_n dX10_ringsOn_43 rfl ?_
        refine g_call2 dX10_ringsOn_44 clM_ringsOn ml_M_215 gc10 rfl rfl (by decide) (Nat.le_of_ble_eq_true rfl) ?_
        obtain ⟨p, hp⟩ : ∃ p : RW, p = fun i => if i = n then y else r i := ⟨_, rfl⟩
        have hpr : ∀ i, i < n → p i = r i := fun i hi => by rw [hp]; dsimp only; rw [if_neg (by omega)]
        have hpn : p n = y := by rw [hp]; dsimp only; rw [if_pos rfl]
        refine ihg (by omega) (mset M2 67 n (nI y)) _ p m2 b2 g2 (by rw [mset_ne (by decide)]; exact hM2) (fun i hi => ?_) (fun i hi => ?_) (BR_keep (hB2.off (fun j _ => mset_off (by omega)) (mset_ne (by decide))) (fun s q hs hq => Or.inl ?_) (fun h1 h2 => ?_)) (fun M3 m3 b3 g3 hE3 h673 hB3 => ?_)
        · by_cases e : i = n
          · subst e
            rw [hpn]
            refine ⟨by omega, f1, ?_, fun _ => ⟨?_, ?_⟩, fun j hj => ?_⟩
            · rw [hpr 0 (by omega)]; exact f2
            · rw [hpr 0 (by omega)]; exact f3
            · rw [hpr (i - 1) (by omega)]; exact f5
            · rw [hpr j hj]; exact f4 j hj
          · obtain ⟨z1, z2, z3, z4, z5⟩ := hrow i (by omega)
            rw [hpr i (by omega), hpr 0 (by omega)]
            refine ⟨z1, z2, z3, fun h0 => ?_, fun j hj => ?_⟩
            · rw [hpr (i - 1) (by omega)]; exact z4 h0
            · rw [hpr j (by omega)]; exact z5 j hj
        · by_cases e : i = n
          · subst e; rw [mset_at, hpn]
          · rw [mset_off (by omega), h672 i (by omega), hpr i (by omega)]; exact h67 i (by omega)
        · rcases hs with hs | ⟨hs, j, h1, h2, h3⟩
          · exact Or.inl (Or.inl hs)
          · by_cases e : j = n
            · subst e
              rw [hpn] at h3
              exact Or.inr ⟨⟨hs, fun i hi => (h2 i hi).trans (hpr i hi)⟩, h3⟩
            · exact Or.inl (Or.inr ⟨hs, j, by omega, fun i hi => (h2 i hi).trans (hpr i (by omega)), by rw [← hpr j (by omega)]; exact h3⟩)
        · rcases h2 with (h2 | ⟨h2, j, h3, h4, h5⟩) | ⟨⟨h2, h3⟩, h4⟩
          · exact Or.inl h2
          · exact Or.inr ⟨h2, j, by omega, fun i hi => (h4 i hi).trans (hpr i (by omega)).symm, by rw [hpr j h3]; exact h5⟩
          · exact Or.inr ⟨h2, n, by omega, fun i hi => (h3 i hi).trans (hpr i hi).symm, by rw [hpn]; exact h4⟩
        · skip
          first | refine g_incn4_3 dX10_ringsOn_47 ki_1 (by decide) rfl ?_ | refine g_incg4_3 (nI 1) dX10_ringsOn_47 ki_1 (by decide) rfl ?_
          refine g_goto 13 dX10_ringsOn_50 (by decide) ?_
          refine ihy (by omega) M3 m3 b3 g3 (hE2.tr (EqH.set.tr hE3)) (fun i hi => by rw [h673 i (by omega), mset_off (by omega)]; exact h672 i hi) (BR_keep hB3 (fun s q hs hq => Or.inl ?_) (fun h1 h2 => ?_))
          · rcases hs with (hs | ⟨hs, j, h3, h4, h5⟩) | ⟨⟨hs, h3⟩, h4⟩
            · exact Or.inl (Or.inl hs)
            · exact Or.inl (Or.inr ⟨hs, j, by omega, fun i hi => (h4 i hi).trans (hpr i (by omega)).symm, by rw [hpr j h3]; exact h5⟩)
            · by_cases e : q n = y
              · refine Or.inr ⟨hs, fun i hi => ?_⟩
                by_cases e2 : i = n
                · rw [e2, e, hpn]
                · rw [h3 i (by omega), hpr i (by omega)]
              · exact Or.inl (Or.inr ⟨hs, n, by omega, fun i hi => (h3 i hi).trans (hpr i hi).symm, by rw [hpn]; omega⟩)
          · rcases h2 with (h2 | ⟨h2, j, h3, h4, h5⟩) | ⟨h2, h3⟩
            · exact Or.inl (Or.inl h2)
            · by_cases e : j = n
              · subst e
                rw [hpn] at h5
                exact Or.inr ⟨⟨h2, fun i hi => (h4 i hi).trans (hpr i hi)⟩, by omega⟩
              · exact Or.inl (Or.inr ⟨h2, j, by omega, fun i hi => (h4 i hi).trans (hpr i (by omega)), by rw [← hpr j (by omega)]; exact h5⟩)
            · exact Or.inr ⟨⟨h2, fun i hi => (h3 i (by omega)).trans (hpr i hi)⟩, by rw [h3 n (by omega), hpn]; omega⟩
      · rw [show folB S r n y = false from decide_eq_false hf]
        refine g_if_eq_ff 47 dX10_ringsOn_29 (by decide) ?_
        first | refine g_incn4_3 dX10_ringsOn_47 ki_1 (by decide) rfl ?_ | refine g_incg4_3 (nI 1) dX10_ringsOn_47 ki_1 (by decide) rfl ?_
        refine g_goto 13 dX10_ringsOn_50 (by decide) ?_
        refine ihy (by omega) M2 m2 b2 g2 hE2 h672 (BR_keep hB2 (fun s q hs hq => Or.inl ?_) (fun h1 h2 => ?_))
        · rcases hs with hs | ⟨⟨hs, h3⟩, h4⟩
          · exact Or.inl hs
          · by_cases e : q n = y
            · exfalso
              obtain ⟨z1, z2, z3, z4, z5⟩ := hq.2.2.1 n (by omega)
              obtain ⟨y1, y2⟩ := z4 (by omega)
              rw [e] at z1 z2 z3 y1 y2 z5
              rw [h3 0 (by omega)] at z3 y1
              rw [h3 (n - 1) (by omega)] at y2
              exact hf ⟨z2, z3, y1, fun j hj => by have := z5 j hj; rw [h3 j hj] at this; exact this, y2⟩
            · exact Or.inr ⟨⟨hs, h3⟩, by omega⟩
        · rcases h2 with h2 | ⟨h2, h3⟩
          · exact Or.inl h2
          · exact Or.inr ⟨h2, by omega⟩
  · have e : n = z := by omega
    subst e
    refine g_aload_n dX10_ringsOn_5 rfl ?_
    refine g_iload_n dX10_ringsOn_6 rfl ?_
    refine g_call1 dX10_ringsOn_7 clM_looksAt ml_M_209 gc10 rfl rfl (by decide) (Nat.le_of_ble_eq_true rfl) ?_
    refine SM_looksAt hM hH hz h67 hrow hB (fun s q hs _ => ?_) (fun M' m' b' g' hE' hB' => ?_)
    · rcases hs with hs | ⟨hs, j, h1, h2, h3⟩
      · exact Or.inl hs
      · exact Or.inr ⟨hs, j, h1, h2, h3⟩
    · skip
      refine g_return dX10_ringsOn_10 rfl ?_
      refine h M' m' b' g' (EqH.ofG hE') (fun i _ => by rw [hE'.row (by decide) (by decide)]) (BR_keep hB' (fun s q hs _ => Or.inl ?_) (fun _ h2 => ?_))
      · rcases hs with hs | ⟨h1, h2⟩
        · exact Or.inl hs
        · exact Or.inr ⟨h1.symm, fun i hi => (h2 i hi).symm⟩
      · rcases h2 with h2 | ⟨h1, h2⟩
        · exact Or.inl h2
        · exact Or.inr ⟨h1.symm, fun i hi => (h2 i (by omega)).symm⟩
theorem SM_rings {S : BS} {z : Nat} (hH : HM S) (hz : 2 ≤ z ∧ z ≤ 4) : ∀ t n, n + t = z → 1 ≤ n → ∀ d, RgS S z (d + t + 6) n := by
  intro t
  induction t with
  | zero => exact fun n hn h1 d => SM_ringsS hH hz (by omega) (fun y => absurd y (by omega))
  | succ t ih =>
    intro n hn h1 d
    have := ih (n + 1) (by omega) (by omega) d
    rw [show d + t + 6 = d + t + 1 + 5 by omega] at this
    have y := SM_ringsS hH hz (d := d + t + 1) ⟨h1, by omega⟩ (fun _ => this)
    rw [show d + t + 1 + 6 = d + (t + 1) + 6 by omega] at y
    exact y
