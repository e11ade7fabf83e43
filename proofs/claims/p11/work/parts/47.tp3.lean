theorem both_feed (x : Int32) : Both mF_feed mM_feed [.int x] := by
  intro M hI
  have hI0 := hI
  obtain ⟨S, b, S', n, t, pn, pf, h1, h2, h3, h4⟩ := hI
  have e1 : M 41 1 = nI n := h4.2.2.2.2.1.2.2.1
  have e2 : M 57 19 = nI n := h4.2.2.2.2.2.1.2.2.1
  have hn : n ≤ 150 := h4.2.1
  have ht := h4.2.2.1
  have a4 : ∀ i, i < n → M 42 i = nI (t i) := h4.2.2.2.2.1.2.2.2.1
  have b4 : ∀ i, i < n → M 69 i = nI (t i) := h4.2.2.2.2.2.1.2.2.2.1
  refine SF_feed x M n _ e1 hn (fun z => ?_) (fun z zn => ?_) (fun z zn => ?_)
  · refine ⟨IsI.rf, ?_⟩
    exact SM_feed x M n _ e2 hn (fun _ => ⟨TyI.rf, hI0⟩) (fun y _ => absurd y z) (fun y _ => absurd y z)
  · refine ⟨IsI.rf, ?_⟩
    exact SM_feed x M n _ e2 hn (fun y => absurd z y) (fun _ _ => ⟨TyI.rf, hI0⟩) (fun _ w => absurd w (by omega))
  · have hx : inR x 128 = true := decide_eq_true ⟨by omega, by omega⟩
    obtain ⟨u, hu, rfl⟩ := inR_true hx
    rw [nI_toInt (by omega)] at z
    have hu1 : 1 ≤ u ∧ u ≤ 127 := by omega
    refine ⟨IsI.rf, ?_⟩
    refine SM_feed (nI u) _ n _ (by rw [mset_off (by omega), mset_off (by omega)]; exact e2) hn (fun y => absurd (by rw [nI_toInt (by omega)]; omega) y) (fun _ w => absurd w (by omega)) (fun _ _ => ?_)
    refine ⟨TyI.rf, S, b, S', n + 1, fun i => if i = n then u else t i, pn, pf, h1, h2.off (fun k k1 k2 => by rw [mset_ne (by omega), mset_ne (by omega), mset_ne (by omega), mset_ne (by omega)]), ?_, h4.tape (by omega) (fun i hi => ?_) (fun k j hk n1 n2 n3 n4 => ?_) ?_ (fun i hi => ?_) ?_ (fun i hi => ?_)⟩
    · rw [mset_ne (by decide), mset_ne (by decide), mset_ne (by decide), mset_ne (by decide)]; exact h3
    · split
      · exact hu1
      · exact ht i (by omega)
    · rw [mset_off (by omega), mset_off (by omega), mset_off (by omega), mset_off (by omega)]
    · rw [mset_off (by omega), mset_off (by omega), mset_at]
    · rw [mset_off (by omega), mset_off (by omega), mset_off (by omega)]
      by_cases e : i = n
      · subst e; rw [mset_at, if_pos rfl]
      · rw [mset_off (by omega), if_neg e]; exact a4 i (by omega)
    · rw [mset_at]
    · rw [mset_off (by omega)]
      by_cases e : i = n
      · subst e; rw [mset_at, if_pos rfl]
      · rw [mset_off (by omega), mset_off (by omega), mset_off (by omega), if_neg e]; exact b4 i (by omega)
