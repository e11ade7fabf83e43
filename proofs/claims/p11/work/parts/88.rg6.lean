/-! RINGS in the class: what has been seen; the bits of those in the row -/
def bef (S : BS) (k n : Nat) (r : RW) (s : Nat) (q : RW) : Prop := S 11 (q 0) 0 < k ∨ (S 11 (q 0) 0 = k ∧ ((∃ j, j < s ∧ j < n ∧ (∀ i, i < j → q i = r i) ∧ q j < r j) ∨ (s < n ∧ ∀ i, i < s → q i = r i)))
def pfx (S : BS) (k n : Nat) (r : RW) (s : Nat) (q : RW) : Prop := S 11 (q 0) 0 = k ∧ n ≤ s ∧ ∀ i, i < n → q i = r i
theorem nxt_nn {S : BS} {r : RW} {k : Nat} : 0 ≤ nxtR S r k := by
  unfold nxtR
  split <;> omega
theorem lst_nn {S : BS} {r : RW} {k : Nat} : 0 ≤ lstR S r k := by unfold lstR; omega
theorem pg_grow {S : BS} {q : RW} {mc n : Nat} : ∀ t, (∀ i, n ≤ i → i < n + t → ownR S q i ≤ mc) → pgR S q (n + t) ≤ pgR S q n + ((t * mc : Nat) : Int)
  | 0, _ => by simp
  | t + 1, h => by
    have h1 := pg_grow t (fun i hi hj => h i hi (by omega))
    have h2 := h (n + t) (by omega) (by omega)
    have h3 := nxt_nn (S := S) (r := q) (k := n + t)
    rw [show n + (t + 1) = n + t + 1 by omega, pgR, Nat.succ_mul]
    omega
theorem bt_lit : ∀ y, y < 8 → (nI 1 <<< (nI y &&& 31)).toBitVec = BitVec.twoPow 32 y := by decide +kernel
theorem bt_one : ∀ y, y < 8 → ∀ z, z < 8 → (nI 1 <<< (nI y &&& 31)).toBitVec.getLsbD z = decide (y = z) := by decide +kernel
theorem bt_and (h : Int32) {y : Nat} (hy : y < 8) : h &&& (nI 1 <<< (nI y &&& 31)) = 0 ↔ h.toBitVec.getLsbD y = false := by
  rw [← Int32.toBitVec_inj, Int32.toBitVec_and, bt_lit y hy, BitVec.and_twoPow]
  cases hb : h.toBitVec.getLsbD y with
  | false => exact ⟨fun _ => rfl, fun _ => rfl⟩
  | true =>
    refine ⟨fun z => ?_, fun z => by cases z⟩
    exfalso
    have z : BitVec.twoPow 32 y = 0#32 := z
    have hz : ∀ y, y < 8 → BitVec.twoPow 32 y ≠ 0#32 := by decide +kernel
    exact hz y hy z
def BTr (S : BS) (hb : Int32) (r : RW) (n : Nat) : Prop := ∀ y, y < 8 → (hb.toBitVec.getLsbD y = true ↔ ∃ j, j < n ∧ S 12 (r j) 0 = y)
theorem BTr.ext {S : BS} {hb : Int32} {r q : RW} {n : Nat} (h : BTr S hb r n) (hq : ∀ i, i < n → q i = r i) (h8 : S 12 (q n) 0 < 8) : BTr S (hb ||| bitR S (q n)) q (n + 1) := by
  intro y hy
  unfold bitR
  rw [Int32.toBitVec_or, BitVec.getLsbD_or, bt_one _ h8 y hy, Bool.or_eq_true, h y hy, decide_eq_true_eq]
  constructor
  · rintro (⟨j, hj, e⟩ | e)
    · exact ⟨j, by omega, by rw [hq j hj]; exact e⟩
    · exact ⟨n, by omega, e⟩
  · rintro ⟨j, hj, e⟩
    by_cases z : j = n
    · subst z; exact Or.inr e
    · exact Or.inl ⟨j, by omega, by rw [← hq j (by omega)]; exact e⟩
theorem BTr.one {S : BS} {r : RW} (h8 : S 12 (r 0) 0 < 8) : BTr S (bitR S (r 0)) r 1 := by
  intro y hy
  unfold bitR
  rw [bt_one _ h8 y hy, decide_eq_true_eq]
  constructor
  · intro e; exact ⟨0, by omega, e⟩
  · rintro ⟨j, hj, e⟩
    obtain rfl : j = 0 := by omega
    exact e
/-- a held duty of the kind stands in the list -/
theorem HLp.find {S : BS} {k hc : Nat} {hl : Nat → Nat} (h : HLp S k hc hl (S 1 0 0)) {q : RW} {s i : Nat} (hr : rowOK S q s) (hi : i < s) (hk : S 11 (q 0) 0 = k) : ∃ z, z < hc ∧ q i = hl z := by
  obtain ⟨h1, h2, h3, _⟩ := hr i hi
  obtain ⟨z, hz, e⟩ := h.2.2.2 (q i) h1 (h3.trans hk) h2
  exact ⟨z, hz, e.symm⟩
theorem prune {S : BS} {k hc mc n s : Nat} {hl : Nat → Nat} {r q : RW} (hp : HLp S k hc hl (S 1 0 0)) (ho : ∀ a, a < hc → dlv S (S 12 (hl a) 0) (hl a) ≤ mc) (hq : ringOK S q s) (hx : pfx S k n r s q) : gnR S q s ≤ pgR S r n + (((4 - n) * mc : Nat) : Int) := by
  obtain ⟨hk, hns, hpx⟩ := hx
  have h1 := pg_grow (S := S) (q := q) (mc := mc) (n := n) (s - n) (fun i h1 h2 => by
    obtain ⟨z, hz, e⟩ := hp.find hq.2.2.1 (i := i) (by omega) hk
    unfold ownR
    rw [e]
    have := ho z hz
    omega)
  rw [show n + (s - n) = s by omega, pg_cong (r := q) (q := r) hpx] at h1
  have h2 := lst_nn (S := S) (r := q) (k := s)
  have h3 : (s - n) * mc ≤ (4 - n) * mc := Nat.mul_le_mul_right _ (by have := hq.2.1; omega)
  unfold gnR
  omega
theorem HLp.mono {S : BS} {k hc b : Nat} {hl : Nat → Nat} (h : HLp S k hc hl b) {i j : Nat} (hi : i < hc) (hj : j < hc) : hl i < hl j ↔ i < j := by
  constructor
  · intro z
    rcases Nat.lt_trichotomy i j with y | y | y
    · exact y
    · rw [y] at z; omega
    · have := h.2.2.1 j i y hi; omega
  · intro z; exact h.2.2.1 i j z hj
def Pm (S : BS) (k n : Nat) (r : RW) (hl : Nat → Nat) (y s : Nat) (q : RW) : Prop := (bef S k n r s q ∨ sameR n r s q) ∨ (S 11 (q 0) 0 = k ∧ n < s ∧ (∀ i, i < n → q i = r i) ∧ ∃ z, z < y ∧ q n = hl z)
theorem bef_same {S : BS} {k n s : Nat} {r q : RW} (h : bef S k n r s q) (g : s = n) (hk : S 11 (r 0) 0 = k) (h0 : q 0 = r 0) : lexR n q r := by
  subst g
  rcases h with h | ⟨_, ⟨j, h1, h2, h3, h4⟩ | ⟨h1, _⟩⟩
  · rw [h0, hk] at h; omega
  · exact ⟨j, h1, h3, h4⟩
  · omega
theorem Pm_in {S : BS} {k hc n y s : Nat} {hl : Nat → Nat} {r q p : RW} (hp : HLp S k hc hl (S 1 0 0)) (hy : y < hc) (hpr : ∀ i, i < n → p i = r i) (hpn : p n = hl y) (hq : ringOK S q s) (h : bef S k (n + 1) p s q) : Pm S k n r hl y s q := by
  rcases h with h | ⟨hk, ⟨j, h1, h2, h3, h4⟩ | ⟨h1, h2⟩⟩
  · exact Or.inl (Or.inl (Or.inl h))
  · by_cases e : j = n
    · subst e
      obtain ⟨z, hz, e1⟩ := hp.find hq.2.2.1 (i := j) h1 hk
      rw [hpn, e1, hp.mono hz hy] at h4
      exact Or.inr ⟨hk, h1, fun i hi => (h3 i hi).trans (hpr i hi), z, h4, e1⟩
    · exact Or.inl (Or.inl (Or.inr ⟨hk, Or.inl ⟨j, h1, by omega, fun i hi => (h3 i hi).trans (hpr i (by omega)), by rw [← hpr j (by omega)]; exact h4⟩⟩))
  · by_cases e : s = n
    · exact Or.inl (Or.inr ⟨e.symm, fun i hi => by rw [h2 i (by omega), hpr i hi]⟩)
    · exact Or.inl (Or.inl (Or.inr ⟨hk, Or.inr ⟨by omega, fun i hi => (h2 i hi).trans (hpr i (by omega))⟩⟩))
theorem Pm_out {S : BS} {k hc n y s : Nat} {hl : Nat → Nat} {r q p : RW} (hp : HLp S k hc hl (S 1 0 0)) (hy : y < hc) (hpr : ∀ i, i < n → p i = r i) (hpn : p n = hl y) (hn : 0 < n) (hrk : S 11 (r 0) 0 = k) (h : Pm S k n r hl (y + 1) s q) : bef S k (n + 1) p s q ∨ pfx S k (n + 1) p s q := by
  rcases h with (h | ⟨h1, h2⟩) | ⟨hk, h1, h2, z, h3, h4⟩
  · left
    rcases h with h | ⟨hk, ⟨j, h1, h2, h3, h4⟩ | ⟨h1, h2⟩⟩
    · exact Or.inl h
    · exact Or.inr ⟨hk, Or.inl ⟨j, h1, by omega, fun i hi => (h3 i hi).trans (hpr i (by omega)).symm, by rw [hpr j h2]; exact h4⟩⟩
    · exact Or.inr ⟨hk, Or.inr ⟨by omega, fun i hi => (h2 i hi).trans (hpr i (by omega)).symm⟩⟩
  · left
    refine Or.inr ⟨by rw [← h2 0 hn]; exact hrk, Or.inr ⟨by omega, fun i hi => by rw [← h2 i (by omega), hpr i (by omega)]⟩⟩
  · by_cases e : z = y
    · right
      refine ⟨hk, by omega, fun i hi => ?_⟩
      by_cases e2 : i = n
      · rw [e2, h4, e, hpn]
      · rw [h2 i (by omega), hpr i (by omega)]
    · left
      exact Or.inr ⟨hk, Or.inl ⟨n, h1, by omega, fun i hi => by rw [h2 i hi, hpr i hi], by rw [h4, hpn]; exact (hp.mono (by omega) hy).mpr (by omega)⟩⟩
