/-! RINGS in the reference: findsRing -/
theorem SM_findsRing {d : Nat} {M : Mm} {S : BS} {Q : Po} (hM : MK (M 58) S) (hH : HM S) (h : ∀ M' m b g, EqH M M' → BR S M' (fun _ _ => True) m b g → Q M' none) : Call (d + 10) mM_findsRing [.ref 57] M Q := by
  have hw := hM.wf.nd
  refine Call_of (m := mM_findsRing) [some (.ref 57), none, none] rfl (fun G => Nat.le_of_ble_eq_true rfl) (fun G => rfl) ?_
  refine g_aload_n dX10_findsRing_0 rfl ?_
  refine g_iconst (nI 0) dX10_findsRing_1 ki_0 ?_
  refine g_puti (j := 16) dX10_findsRing_2 gc10 rfl (by decide) rfl (by decide) fl_M_206 rfl (tyX10_ok 16 (by decide)) (by first | rfl | exact nar_bI _) rfl ?_
  refine g_aload_n dX10_findsRing_5 rfl ?_
  refine g_iconst (nI 0) dX10_findsRing_6 ki_0 ?_
  refine g_puti (j := 17) dX10_findsRing_7 gc10 rfl (by decide) rfl (by decide) fl_M_203 rfl (tyX10_ok 17 (by decide)) (by first | rfl | exact nar_bI _) rfl ?_
  refine g_iconst (nI 2) dX10_findsRing_10 ki_2 ?_
  refine g_ist3_1 dX10_findsRing_11 (by decide) rfl ?_
  suffices hloop : ∀ t z, z + t = 5 → 2 ≤ z → ∀ M' m b g, EqH M M' → BR S M' (fun s _ => s < z) m b g → Go mM_findsRing (d + 10) Q 12 [some (.ref 57), some (.int (nI z)), none] [] M' by
    refine hloop 3 2 rfl (Nat.le_refl 2) _ 0 (fun _ => 0) 0 (fun k j a b c => ?_) ⟨?_, mset_at _ _ _ _, by omega, by omega, fun _ => rfl, fun y => absurd y (by omega), fun i hi => absurd hi (by omega), Or.inl ⟨rfl, fun s q y hq => ?_⟩⟩
    · rw [mset_off (by omega), mset_off (by omega)]
    · rw [mset_off (by omega), mset_at]
    · have := hq.1; omega
  intro t
  induction t with
  | zero =>
    intro z hzt hz M' m b g hE hB
    refine g_iload_n dX10_findsRing_12 rfl ?_
    refine g_iconst (nI 4) dX10_findsRing_13 ki_4 ?_
    refine g_icmp_gt_n 62 dX10_findsRing_14 (by decide) (by omega) (by omega) (fun c14 => ?_) (fun c14 => ?_)
    · refine g_return dX10_findsRing_62 rfl ?_
      exact h M' m b g hE (BR_keep hB (fun s q _ hq => Or.inl (by have := hq.2.1; omega)) (fun _ _ => trivial))
    · exact absurd hzt (by omega)
  | succ t ih =>
    intro z hzt hz M' m b g hE hB
    refine g_iload_n dX10_findsRing_12 rfl ?_
    refine g_iconst (nI 4) dX10_findsRing_13 ki_4 ?_
    refine g_icmp_gt_n 62 dX10_findsRing_14 (by decide) (by omega) (by omega) (fun c14 => ?_) (fun c14 => ?_)
    · exact absurd hzt (by omega)
    · refine g_iconst (nI 0) dX10_findsRing_17 ki_0 ?_
      refine g_ist3_2 dX10_findsRing_18 (by decide) rfl ?_
      refine loop_up (P := fun y => ∀ M2 m2 b2 g2, EqH M M2 → BR S M2 (fun s q => s < z ∨ (s = z ∧ q 0 < y)) m2 b2 g2 → Go mM_findsRing (d + 10) Q 19 [some (.ref 57), some (.int (nI z)), some (.int (nI y))] [] M2) (S 1 0 0) ?_ 0 (Nat.zero_le _) M' m b g hE (BR_keep hB (fun s q hs _ => Or.inl (by omega)) (fun _ h2 => Or.inl h2))
      intro y hy ihy M2 m2 b2 g2 hE2 hB2
      have hM2 : MK (M2 58) S := by rw [hE2.r58]; exact hM
      refine g_iload_n dX10_findsRing_19 rfl ?_
      refine g_aload_n dX10_findsRing_20 rfl ?_
      refine g_getr (j := 0) dX10_findsRing_21 gc10 rfl (by decide) rfl (by decide) fl_M_9 ?_
      refine g_iconst (nI 2) dX10_findsRing_24 ki_2 ?_
      refine g_iald_n dX10_findsRing_25 (by first | rfl | assumption) (by first | decide | assumption) (by omega) (by omega) ?_
      try simp (disch := omega) only [hM2.nd]
      refine g_icmp_ge_n 56 dX10_findsRing_26 (by decide) (by omega) (by omega) (fun c26 => ?_) (fun c26 => ?_)
      · first | refine g_incn3_1 dX10_findsRing_56 ki_1 (by decide) rfl ?_ | refine g_incg3_1 (nI 1) dX10_findsRing_56 ki_1 (by decide) rfl ?_
        refine g_goto 12 dX10_findsRing_59 (by decide) ?_
        refine Go_sub [some (.ref 57), some (.int (nI (z + 1))), none] (by simp [subL]) (ih (z + 1) (by omega) (by omega) M2 m2 b2 g2 hE2 (BR_keep hB2 (fun s q hs hq => Or.inl ?_) (fun _ h2 => by omega)))
        have := (hq.2.2.1 0 (by have := hq.1; omega)).1
        omega
      · have hdy := hM.wf.dk (d := y) (by omega)
        refine g_aload_n dX10_findsRing_29 rfl ?_
        refine g_iload_n dX10_findsRing_30 rfl ?_
        refine g_call1 dX10_findsRing_31 clM_holder ml_M_78 gc10 rfl rfl (by decide) (Nat.le_of_ble_eq_true rfl) ?_
        refine SM_holder hM2 (by omega) ?_
        refine g_if_lt 50 dX10_findsRing_34 (by decide) (fun c34 => ?_) (fun c34 => ?_)
        · rw [hv_lt hdy.2.2] at c34
          first | refine g_incn3_2 dX10_findsRing_50 ki_1 (by decide) rfl ?_ | refine g_incg3_2 (nI 1) dX10_findsRing_50 ki_1 (by decide) rfl ?_
          refine g_goto 19 dX10_findsRing_53 (by decide) ?_
          refine ihy (by omega) M2 m2 b2 g2 hE2 (BR_keep hB2 (fun s q hs hq => Or.inl ?_) (fun _ h2 => by omega))
          have h8 := (hq.2.2.1 0 (by have := hq.1; omega)).2.1
          by_cases e : q 0 = y
          · rw [e] at h8; omega
          · omega
        · rw [hv_lt hdy.2.2] at c34
          refine g_aload_n dX10_findsRing_37 rfl ?_
          refine g_getr (j := 14) dX10_findsRing_38 gc10 rfl (by decide) rfl (by decide) fl_M_38 ?_
          refine g_iconst (nI 0) dX10_findsRing_41 ki_0 ?_
          refine g_iload_n dX10_findsRing_42 rfl ?_
          refine g_iast_n dX10_findsRing_43 (by first | rfl | assumption) (by first | decide | assumption) (by omega) (by omega) ?_
          refine g_aload_n dX10_findsRing_44 rfl ?_
          refine g_iconst (nI 1) dX10_findsRing_45 ki_1 ?_
          refine g_iload_n dX10_findsRing_46 rfl ?_
          refine g_call2 dX10_findsRing_47 clM_ringsOn ml_M_215 gc10 rfl rfl (by decide) (Nat.le_of_ble_eq_true rfl) ?_
          have hrg := SM_rings (S := S) (z := z) hH (by omega) (z - 1) 1 (by omega) (Nat.le_refl 1) (d + 4 - z)
          rw [show d + 4 - z + (z - 1) + 6 = d + 9 by omega] at hrg
          refine hrg (mset M2 67 0 (nI y)) _ (fun _ => y) m2 b2 g2 (by rw [mset_ne (by decide)]; exact hM2) (fun i hi => ?_) (fun i hi => ?_) (BR_keep (hB2.off (fun j _ => mset_off (by omega)) (mset_ne (by decide))) (fun s q hs hq => Or.inl ?_) (fun _ h2 => ?_)) (fun M3 m3 b3 g3 hE3 h673 hB3 => ?_)
          · obtain rfl : i = 0 := by omega
            exact ⟨show y < S 1 0 0 by omega, show S 12 y 0 < 8 by omega, rfl, fun y => absurd y (by omega), fun j hj => absurd hj (by omega)⟩
          · obtain rfl : i = 0 := by omega
            rw [mset_at]
          · rcases hs with hs | ⟨hs, j, h1, h2, h3⟩
            · exact Or.inl hs
            · obtain rfl : j = 0 := by omega
              exact Or.inr ⟨hs, h3⟩
          · rcases h2 with h2 | ⟨h2, h3⟩
            · exact Or.inl h2
            · exact Or.inr ⟨h2, 0, by omega, fun i hi => absurd hi (by omega), h3⟩
          · skip
            first | refine g_incn3_2 dX10_findsRing_50 ki_1 (by decide) rfl ?_ | refine g_incg3_2 (nI 1) dX10_findsRing_50 ki_1 (by decide) rfl ?_
            refine g_goto 19 dX10_findsRing_53 (by decide) ?_
            refine ihy (by omega) M3 m3 b3 g3 (hE2.tr (EqH.set.tr hE3)) (BR_keep hB3 (fun s q hs hq => Or.inl ?_) (fun _ h2 => ?_))
            · rcases hs with hs | ⟨hs, h3⟩
              · exact Or.inl (Or.inl hs)
              · by_cases e : q 0 = y
                · refine Or.inr ⟨hs, fun i hi => ?_⟩
                  obtain rfl : i = 0 := by omega
                  exact e
                · exact Or.inl (Or.inr ⟨hs, 0, by omega, fun i hi => absurd hi (by omega), show q 0 < y by omega⟩)
            · rcases h2 with (h2 | ⟨h2, j, h3, h4, h5⟩) | ⟨h2, h3⟩
              · exact Or.inl h2
              · obtain rfl : j = 0 := by omega
                dsimp only at h5
                exact Or.inr ⟨h2, by omega⟩
              · have h3 := h3 0 (by omega)
                dsimp only at h3
                exact Or.inr ⟨h2, by omega⟩
