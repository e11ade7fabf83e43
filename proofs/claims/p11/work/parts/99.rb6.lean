/-! turn on both sides -/
theorem bsR_of {S : BS} (h0 : (bsR S).1 ≠ 0) : BstP S (fun _ _ => True) (bsR S).1 (bsR S).2 := by
  by_cases hx : ∃ x : Nat × RW, BstP S (fun _ _ => True) x.1 x.2
  · obtain ⟨x, hx⟩ := hx
    exact bsR_is hx
  · exfalso
    apply h0
    unfold bsR
    rw [dif_neg hx]
theorem tuR_HM {S : BS} (hH : HM S) : ∀ k, HM (tuR S k).1
  | 0 => hH
  | k + 1 => by
    rw [tuR]
    by_cases h0 : (bsR (tuR S k).1).1 = 0
    · rw [if_pos h0]; exact tuR_HM hH k
    · rw [if_neg h0]
      exact HM_hnR (tuR_HM hH k) (ring_of (bsR_of h0) h0)
theorem both_turn (x : Int32) : Both mF_turn mM_turn [.int x] := both_book (f_turn x) (fun M S Q => SF_turn x M S Q) (fun M S Q => SM_turn x M S Q) (fun S hW hH => by
  unfold f_turn
  split
  · exact tuR_HM hH _
  · exact hH)
