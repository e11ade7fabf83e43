/-! RINGS: the best one, alike on both sides -/
noncomputable def bsR (S : BS) : Nat × RW := @dite (Nat × RW) (∃ x : Nat × RW, BstP S (fun _ _ => True) x.1 x.2) (Classical.propDecidable _) (fun h => Classical.choose h) (fun _ => (0, fun _ => 0))
theorem bsR_is {S : BS} {m : Nat} {b : RW} (h : BstP S (fun _ _ => True) m b) : BstP S (fun _ _ => True) (bsR S).1 (bsR S).2 := by
  have hx : ∃ x : Nat × RW, BstP S (fun _ _ => True) x.1 x.2 := ⟨(m, b), h⟩
  unfold bsR
  rw [dif_pos hx]
  exact Classical.choose_spec hx
theorem bsR_eq {S : BS} {m : Nat} {b : RW} (h : BstP S (fun _ _ => True) m b) : m = (bsR S).1 ∧ ∀ i, i < m → b i = (bsR S).2 i := Bst_uniq (fun _ _ _ => trivial) h (bsR_is h)
noncomputable def bgR (S : BS) : Nat := if (bsR S).1 = 0 then 0 else (gnR S (bsR S).2 (bsR S).1).toNat
theorem bgR_eq {S : BS} {m g : Nat} {b : RW} (h : BstP S (fun _ _ => True) m b) (h0 : m = 0 → g = 0) (hg : 0 < m → (g : Int) = gnR S b m) : g = bgR S := by
  obtain ⟨e1, e2⟩ := bsR_eq h
  unfold bgR
  by_cases z : m = 0
  · rw [if_pos (by omega)]
    exact h0 z
  · rw [if_neg (by omega), ← e1, ← gn_cong e2 (by omega), ← hg (by omega)]
    rfl
theorem BM.out {S : BS} {M : Mm} {m g : Nat} {b : RW} (h : BM S M (fun _ _ => True) m b g) : m = (bsR S).1 ∧ M 35 8 = nI (bsR S).1 ∧ M 35 9 = nI (bgR S) ∧ (bsR S).1 ≤ 4 ∧ (∀ i, i < (bsR S).1 → M 40 i = nI ((bsR S).2 i) ∧ (bsR S).2 i < 24) ∧ BstP S (fun _ _ => True) (bsR S).1 (bsR S).2 := by
  obtain ⟨h8, h9, hm4, hg, h0, hgn, h40, hb⟩ := h
  obtain ⟨e1, e2⟩ := bsR_eq hb
  refine ⟨e1, by rw [← e1]; exact h8, by rw [← bgR_eq hb h0 hgn]; exact h9, by omega, fun i hi => ?_, bsR_is hb⟩
  rw [← e2 i (by omega)]
  exact h40 i (by omega)
theorem BR.out {S : BS} {M : Mm} {m g : Nat} {b : RW} (h : BR S M (fun _ _ => True) m b g) : m = (bsR S).1 ∧ M 57 16 = nI (bsR S).1 ∧ M 57 17 = nI (bgR S) ∧ (bsR S).1 ≤ 4 ∧ (∀ i, i < (bsR S).1 → M 68 i = nI ((bsR S).2 i) ∧ (bsR S).2 i < 24) ∧ BstP S (fun _ _ => True) (bsR S).1 (bsR S).2 := by
  obtain ⟨h8, h9, hm4, hg, h0, hgn, h40, hb⟩ := h
  obtain ⟨e1, e2⟩ := bsR_eq hb
  refine ⟨e1, by rw [← e1]; exact h8, by rw [← bgR_eq hb h0 hgn]; exact h9, by omega, fun i hi => ?_, bsR_is hb⟩
  rw [← e2 i (by omega)]
  exact h40 i (by omega)
