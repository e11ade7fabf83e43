/-! NEXT: by LOAD, then burden, then number; the row by insertion -/
def lbN (S : BS) (k p : Nat) : Nat := loadN S p k * 40000 + burN S p
def keyN (S : BS) (k p : Nat) : Nat := lbN S k p * 8 + p
def posN (L f : Nat → Nat) (v : Nat) : Nat → Nat
  | 0 => 0
  | k + 1 => if L v < L (f k) then posN L f v k else k + 1
theorem posN_le (L f : Nat → Nat) (v : Nat) : ∀ k, posN L f v k ≤ k
  | 0 => Nat.le_refl 0
  | k + 1 => by
    rw [posN]
    split
    · have := posN_le L f v k; omega
    · exact Nat.le_refl _
theorem posN_hi (L f : Nat → Nat) (v : Nat) : ∀ {k j : Nat}, posN L f v k ≤ j → j < k → L v < L (f j)
  | 0, j, _, hj => by omega
  | k + 1, j, h, hj => by
    rw [posN] at h
    split at h
    · rename_i hc
      rcases Nat.lt_or_ge j k with z | z
      · exact posN_hi L f v h z
      · rw [show j = k by omega]; exact hc
    · omega
theorem posN_lo (L f : Nat → Nat) (v : Nat) : ∀ {k : Nat}, 0 < posN L f v k → ¬ L v < L (f (posN L f v k - 1))
  | 0, h => by rw [posN] at h; omega
  | k + 1, h => by
    rw [posN] at h ⊢
    split
    · rename_i hc
      rw [if_pos hc] at h
      exact posN_lo L f v h
    · rename_i hc
      rw [show k + 1 - 1 = k by omega]; exact hc
def insN (L f : Nat → Nat) (n v : Nat) : Nat → Nat := fun j => if j < posN L f v n then f j else if j = posN L f v n then v else f (j - 1)
def nxV (S : BS) (k : Nat) : Nat → Nat → Nat
  | 0 => fun _ => 0
  | n + 1 => if hr S n = true then insN (lbN S k) (nxV S k n) (cnt (hr S) n) n else nxV S k n
theorem cnt_ins {f g : Nat → Nat} {v pos : Nat} (P : Nat → Bool) (h1 : ∀ j, j < pos → g j = f j) (h2 : g pos = v) (h3 : ∀ j, pos < j → g j = f (j - 1)) : ∀ {n : Nat}, pos ≤ n → cnt (fun j => P (g j)) (n + 1) = cnt (fun j => P (f j)) n + (if P v = true then 1 else 0) := by
  intro n hn
  induction n with
  | zero =>
    have : pos = 0 := by omega
    subst this
    show 0 + (if P (g 0) = true then 1 else 0) = 0 + (if P v = true then 1 else 0)
    rw [h2]
  | succ n ih =>
    by_cases e : pos = n + 1
    · subst e
      rw [cnt, h2, cnt_cong (n := n + 1) (f := fun j => P (f j)) (fun x hx => by rw [h1 x hx])]
    · rw [cnt, ih (by omega), h3 (n + 1) (by omega), show n + 1 - 1 = n by omega, cnt]
      omega
def NX (S : BS) (k n : Nat) : Prop := (∀ j, j < cnt (hr S) n → nxV S k n j < n ∧ hr S (nxV S k n j) = true) ∧ (∀ i j, i < j → j < cnt (hr S) n → keyN S k (nxV S k n i) < keyN S k (nxV S k n j)) ∧ ∀ P : Nat → Bool, cnt (fun q => hr S q && P q) n = cnt (fun j => P (nxV S k n j)) (cnt (hr S) n)
theorem NX_of (S : BS) (k : Nat) : ∀ {n : Nat}, n ≤ 8 → NX S k n
  | 0, _ => ⟨fun j hj => absurd hj (by rw [cnt]; omega), fun i j _ hj => absurd hj (by rw [cnt]; omega), fun _ => rfl⟩
  | n + 1, hn => by
    obtain ⟨h1, h2, h3⟩ := NX_of S k (n := n) (by omega)
    unfold NX
    rw [nxV]
    by_cases hc : hr S n = true
    · rw [if_pos hc, cnt_t hc]
      have hpl := posN_le (lbN S k) (nxV S k n) n (cnt (hr S) n)
      have hhi := fun {j : Nat} => posN_hi (lbN S k) (nxV S k n) n (k := cnt (hr S) n) (j := j)
      have hlo := posN_lo (lbN S k) (nxV S k n) n (k := cnt (hr S) n)
      have e1 : ∀ j, j < posN (lbN S k) (nxV S k n) n (cnt (hr S) n) → insN (lbN S k) (nxV S k n) (cnt (hr S) n) n j = nxV S k n j := fun j hj => by unfold insN; rw [if_pos hj]
      have e2 : insN (lbN S k) (nxV S k n) (cnt (hr S) n) n (posN (lbN S k) (nxV S k n) n (cnt (hr S) n)) = n := by unfold insN; rw [if_neg (by omega), if_pos rfl]
      have e3 : ∀ j, posN (lbN S k) (nxV S k n) n (cnt (hr S) n) < j → insN (lbN S k) (nxV S k n) (cnt (hr S) n) n j = nxV S k n (j - 1) := fun j hj => by unfold insN; rw [if_neg (by omega), if_neg (by omega)]
      generalize insN (lbN S k) (nxV S k n) (cnt (hr S) n) n = g at e1 e2 e3 ⊢
      generalize posN (lbN S k) (nxV S k n) n (cnt (hr S) n) = pos at hpl hhi hlo e1 e2 e3
      generalize nxV S k n = f at h1 h2 h3 hhi hlo e1 e3
      have hbef : ∀ j, j < pos → j < cnt (hr S) n → keyN S k (f j) < keyN S k n := fun j hj hjc => by
        have hl := hlo (by omega)
        have h0 := (h1 (pos - 1) (by omega)).1
        have hlast : keyN S k (f (pos - 1)) < keyN S k n := by unfold keyN; omega
        rcases Nat.lt_or_ge j (pos - 1) with z | z
        · exact Nat.lt_trans (h2 j (pos - 1) z (by omega)) hlast
        · rw [show j = pos - 1 by omega]; exact hlast
      have haft : ∀ j, pos ≤ j → j < cnt (hr S) n → keyN S k n < keyN S k (f j) := fun j hj hjc => by
        have hl := hhi hj hjc
        unfold keyN
        omega
      refine ⟨fun j hj => ?_, fun i j hij hj => ?_, fun P => ?_⟩
      · rcases Nat.lt_trichotomy j pos with z | z | z
        · rw [e1 j z]; have := h1 j (by omega); exact ⟨by omega, this.2⟩
        · rw [z, e2]; exact ⟨by omega, hc⟩
        · rw [e3 j z]; have := h1 (j - 1) (by omega); exact ⟨by omega, this.2⟩
      · rcases Nat.lt_trichotomy j pos with z | z | z
        · rw [e1 j z, e1 i (by omega)]; exact h2 i j hij (by omega)
        · rw [z, e2, e1 i (by omega)]; exact hbef i (by omega) (by omega)
        · rw [e3 j z]
          rcases Nat.lt_trichotomy i pos with y | y | y
          · rw [e1 i y]
            exact Nat.lt_trans (hbef i y (by omega)) (haft (j - 1) (by omega) (by omega))
          · rw [y, e2]; exact haft (j - 1) (by omega) (by omega)
          · rw [e3 i y]; exact h2 (i - 1) (j - 1) (by omega) (by omega)
      · rw [cnt_ins P e1 e2 e3 hpl, ← h3 P, cnt, hc, Bool.true_and]
    · rw [if_neg hc]
      have hc' : hr S n = false := by simpa using hc
      rw [cnt_f hc']
      refine ⟨fun j hj => ⟨Nat.lt_succ_of_lt (h1 j hj).1, (h1 j hj).2⟩, h2, fun P => ?_⟩
      rw [cnt_f (by rw [hc']; rfl)]
      exact h3 P
/-- how many are ahead of one -/
def rnkN (S : BS) (k p n : Nat) : Nat := cnt (fun q => hr S q && decide (keyN S k q < keyN S k p)) n
theorem cnt_pre {n : Nat} {f : Nat → Bool} {i : Nat} (h1 : ∀ j, j < i → f j = true) (h2 : ∀ j, i ≤ j → f j = false) : i ≤ n → cnt f n = i := by
  induction n with
  | zero => intro h; rw [cnt]; omega
  | succ n ih =>
    intro h
    rcases Nat.lt_or_ge n i with z | z
    · have e : i = n + 1 := by omega
      subst e
      have : ∀ m, m ≤ n + 1 → cnt f m = m := fun m hm => by
        induction m with
        | zero => rfl
        | succ m ihm => rw [cnt_t (h1 m (by omega)), ihm (by omega)]
      exact this _ (Nat.le_refl _)
    · rw [cnt_f (h2 n z)]; exact ih z
theorem cnt_ex {f : Nat → Bool} : ∀ {n : Nat}, cnt f n ≠ 0 → ∃ j, j < n ∧ f j = true
  | 0, h => absurd rfl h
  | n + 1, h => by
    by_cases e : f n = true
    · exact ⟨n, by omega, e⟩
    · rw [cnt_f (by simpa using e)] at h
      obtain ⟨j, hj, h2⟩ := cnt_ex h
      exact ⟨j, by omega, h2⟩
theorem cnt_one_le {f : Nat → Bool} {p : Nat} (h : f p = true) : ∀ {n : Nat}, p < n → cnt f n ≠ 0
  | 0, hp => by omega
  | n + 1, hp => by
    by_cases e : p = n
    · subst e; rw [cnt_t h]; omega
    · have := cnt_one_le h (n := n) (by omega)
      rw [cnt]
      omega
theorem NX_rank {S : BS} {k n : Nat} (h : NX S k n) {i : Nat} (hi : i < cnt (hr S) n) : rnkN S k (nxV S k n i) n = i := by
  obtain ⟨h1, h2, h3⟩ := h
  unfold rnkN
  rw [h3 (fun q => decide (keyN S k q < keyN S k (nxV S k n i)))]
  have hc : cnt (fun j => decide (keyN S k (nxV S k n j) < keyN S k (nxV S k n i))) (cnt (hr S) n) = cnt (fun j => decide (j < i)) (cnt (hr S) n) := cnt_cong (fun x hx => by
    rcases Nat.lt_trichotomy x i with z | z | z
    · rw [decide_eq_true z, decide_eq_true (h2 x i z hi)]
    · rw [z, decide_eq_false (Nat.lt_irrefl _), decide_eq_false (Nat.lt_irrefl _)]
    · have := h2 i x z hx
      rw [decide_eq_false (by omega), decide_eq_false (by omega)])
  rw [hc]
  exact cnt_pre (fun j hj => decide_eq_true hj) (fun j hj => decide_eq_false (by omega)) (by omega)
theorem NX_sur {S : BS} {k n : Nat} (h : NX S k n) {p : Nat} (hp : p < n) (hr1 : hr S p = true) : ∃ i, i < cnt (hr S) n ∧ nxV S k n i = p := by
  obtain ⟨h1, h2, h3⟩ := h
  have h4 := h3 (fun q => q == p)
  have h5 := cnt_one_le (f := fun q => hr S q && (q == p)) (p := p) (by simp [hr1]) hp
  rw [h4] at h5
  obtain ⟨j, hj, e⟩ := cnt_ex h5
  exact ⟨j, hj, by simpa using e⟩
