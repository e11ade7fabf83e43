/-! LESSER in the reference, and EASED -/
theorem held_here {S : BS} (hH : HM S) {p k : Nat} (hp : p < 8) (h : hr S p = false) : heldN S p k = 0 := by
  unfold heldN heldF
  rw [cnt_cong (f := fun _ => false) (fun x hx => ?_)]
  · generalize S 1 0 0 = n
    induction n with
    | zero => rfl
    | succ n ih => rw [cnt, ih]; rfl
  · rw [Bool.and_eq_false_iff]
    refine Or.inr ?_
    rw [beq_eq_false_iff_ne]
    intro e
    have e : S 12 x 0 = p := e
    have := hH.here hx (by rw [e]; exact hp)
    rw [e, ← hr_of, h] at this
    cases this
theorem held_up {S : BS} {d p k : Nat} (hd : d < S 1 0 0) (x : Nat) : heldN (up S 12 d 0 p) x k + (if S 11 d 0 = k ∧ S 12 d 0 = x then 1 else 0) = heldN S x k + (if S 11 d 0 = k ∧ p = x then 1 else 0) := by
  have e1 : up S 12 d 0 p 1 0 0 = S 1 0 0 := up_off (by omega)
  have := cnt_one (f := fun y => S 11 y 0 == k && S 12 y 0 == x) (g := fun y => up S 12 d 0 p 11 y 0 == k && up S 12 d 0 p 12 y 0 == x) (d := d) (fun y hy => by
    rw [up_off (a := 11) (by omega), up_off (a := 12) (by omega)]) hd
  rw [up_off (a := 11) (by omega), up_at] at this
  simp only [Bool.and_eq_true, beq_iff_eq] at this
  unfold heldN heldF
  rw [e1]
  exact this
/-- an easing -/
def lsP (S : BS) (k : Nat) : Nat := fstN (fun p => lcP S k p) (S 0 0 0)
def ezS (S : BS) (k : Nat) : BS := shP 8 S (lpP S k (lsP S k)).2 (ltP S k (lsP S k))
theorem lpP_0 {S : BS} {k p : Nat} (hp : p < S 0 0 0) : (lpP S k p).1.getD 0 0 = p := by
  have := (lpP_ok (S := S) (k := k) hp).2.2.1 0 (by simp)
  rw [this]; rfl
theorem ez_held {S : BS} (hW : WF S) {k p : Nat} (hp : p < S 0 0 0) (x : Nat) : heldN (shP 8 S (lpP S k p).2 (ltP S k p)) x k + (if p = x then 1 else 0) = heldN S x k + (if ltP S k p = x then 1 else 0) := by
  obtain ⟨h1, h2⟩ := lpP_ok (S := S) (k := k) hp
  obtain ⟨i, hi, ei⟩ := ltP_ok hW (k := k) hp
  rw [← ei, shP_max hW h1 hi]
  obtain ⟨p2, e2, h3⟩ := shP_ind hW h1 (P := fun S2 p2 => heldN S2 x k + (if p2 = x then 1 else 0) = heldN S x k + (if (lpP S k p).1.getD i 0 = x then 1 else 0)) (fun S2 j hj hS a1 a2 a3 hP => by
    have e1 : S2 1 0 0 = S 1 0 0 := by rw [hS 1 (by decide)]
    have e11 : S2 11 ((lpP S k p).2 ((lpP S k p).1.getD j 0)) 0 = k := by rw [hS 11 (by decide)]; exact a2
    have := held_up (S := S2) (k := k) (d := (lpP S k p).2 ((lpP S k p).1.getD j 0)) (p := (lpP S k p).1.getD j 0) (by rw [e1]; exact a1) x
    rw [e11] at this
    simp only [true_and] at this
    omega) hi (fun j hj hlt => rfl) (fun _ _ => rfl) rfl
  rcases h3 with h3 | h3
  · exact absurd h3.1 (fun z => z)
  · rw [lpP_0 hp] at h3
    rw [h3.2] at e2
    exact e2
/-- what every easing lowers -/
def psi (S : BS) (k : Nat) : Nat := sumN (fun p => (loadN S p k + loadN S p k - heldN S p k) * heldN S p k) (S 0 0 0)
theorem psi_step {L h : Nat} (h1 : h ≤ L) (hp : 0 < h) : ((L - 1) + (L - 1) - (h - 1)) * (h - 1) + (2 * L - 1) = (L + L - h) * h := by
  obtain ⟨c, rfl⟩ : ∃ c, L = c + h := ⟨L - h, by omega⟩
  obtain ⟨g, rfl⟩ : ∃ g, h = g + 1 := ⟨h - 1, by omega⟩
  have e1 : c + (g + 1) - 1 + (c + (g + 1) - 1) - (g + 1 - 1) = c + c + g := by omega
  have e2 : c + (g + 1) + (c + (g + 1)) - (g + 1) = c + c + g + 1 := by omega
  have e3 : g + 1 - 1 = g := by omega
  rw [e1, e2, e3, Nat.mul_succ, Nat.succ_mul (c + c + g) g]
  omega
theorem held_load (S : BS) (p k : Nat) : heldN S p k ≤ loadN S p k := by unfold heldN loadN loadF; omega
theorem load_eq {S T : BS} (h : ∀ a, a ≠ 12 → T a = S a) (p k : Nat) : loadN T p k + heldN S p k = loadN S p k + heldN T p k := by
  have e : ∀ U : BS, loadN U p k = U 5 p k + headN U p k + heldN U p k := fun U => rfl
  have e2 : headN T p k = headN S p k := by unfold headN; rw [h 3 (by decide)]
  rw [e, e, e2, h 5 (by decide)]
  omega
theorem lcP_pos {S : BS} {k p : Nat} (h : lcP S k p = true) : heldN S p k ≠ 0 ∧ loadN S (ltP S k p) k + 2 ≤ loadN S p k := of_decide_eq_true h
theorem psi_less {S : BS} (hW : WF S) {k p : Nat} (hp : p < S 0 0 0) (hl : lcP S k p = true) : psi (shP 8 S (lpP S k p).2 (ltP S k p)) k + 2 ≤ psi S k := by
  obtain ⟨l1, l2⟩ := lcP_pos hl
  obtain ⟨i, hi, ei⟩ := ltP_ok hW (k := k) hp
  have ht : ltP S k p < S 0 0 0 := by rw [← ei]; exact (lpP_ok hp).1.2.1 _ (getD_mem hi)
  have hne : ltP S k p ≠ p := fun e => by rw [e] at l2; omega
  have hx := ez_held hW (k := k) hp
  have hT : ∀ a, a ≠ 12 → shP 8 S (lpP S k p).2 (ltP S k p) a = S a := fun a ha => shP_ho ha
  generalize hTT : shP 8 S (lpP S k p).2 (ltP S k p) = T at hx hT ⊢
  generalize ltP S k p = t at hx ht hne l2
  have hL := load_eq hT
  have e0 : T 0 0 0 = S 0 0 0 := by rw [hT 0 (by decide)]
  unfold psi
  rw [e0]
  -- from S over a middle: one changes, then the other
  have m1 := sumN_one (f := fun x => (loadN S x k + loadN S x k - heldN S x k) * heldN S x k) (g := fun x => if x = p then (loadN T x k + loadN T x k - heldN T x k) * heldN T x k else (loadN S x k + loadN S x k - heldN S x k) * heldN S x k) (d := p) (fun x hx => if_neg hx) hp
  have m2 := sumN_one (f := fun x => if x = p then (loadN T x k + loadN T x k - heldN T x k) * heldN T x k else (loadN S x k + loadN S x k - heldN S x k) * heldN S x k) (g := fun x => (loadN T x k + loadN T x k - heldN T x k) * heldN T x k) (d := t) (fun x hxt => by
    by_cases e : x = p
    · rw [if_pos e]
    · rw [if_neg e]
      have h1 := hx x
      have h2 := hL x k
      rw [if_neg (fun z => e z.symm), if_neg (fun z => hxt z.symm)] at h1
      have h3 : heldN T x k = heldN S x k := by omega
      have h4 : loadN T x k = loadN S x k := by omega
      rw [h3, h4]) ht
  rw [if_pos rfl] at m1
  rw [if_neg hne] at m2
  have hp1 := hx p
  have hp2 := hL p k
  rw [if_pos rfl, if_neg hne] at hp1
  have ht1 := hx t
  have ht2 := hL t k
  rw [if_pos rfl, if_neg (fun z => hne z.symm)] at ht1
  have a1 := held_load S p k
  have a2 := held_load T p k
  have b1 := held_load S t k
  have b2 := held_load T t k
  have s1 := psi_step a1 (by omega)
  have s2 := psi_step b2 (by omega)
  rw [show loadN S p k - 1 = loadN T p k by omega, show heldN S p k - 1 = heldN T p k by omega] at s1
  rw [show loadN T t k - 1 = loadN S t k by omega, show heldN T t k - 1 = heldN S t k by omega] at s2
  have q1 : loadN T t k = loadN S t k + 1 := by omega
  rw [q1] at s2
  rw [q1] at m2
  generalize (loadN S p k + loadN S p k - heldN S p k) * heldN S p k = A at *
  generalize (loadN T p k + loadN T p k - heldN T p k) * heldN T p k = B at *
  generalize (loadN S t k + loadN S t k - heldN S t k) * heldN S t k = C at *
  generalize (loadN S t k + 1 + (loadN S t k + 1) - heldN T t k) * heldN T t k = D at *
  omega
