/-! RINGS: pure; the best of those seen -/
abbrev RW : Type := Nat → Nat
def rowOK (S : BS) (r : RW) (m : Nat) : Prop := ∀ k, k < m → r k < S 1 0 0 ∧ S 12 (r k) 0 < 8 ∧ S 11 (r k) 0 = S 11 (r 0) 0 ∧ (0 < k → r 0 < r k ∧ mayB S (S 12 (r k) 0) (r (k - 1)) = true) ∧ ∀ j, j < k → S 12 (r j) 0 ≠ S 12 (r k) 0
def ringOK (S : BS) (r : RW) (m : Nat) : Prop := 2 ≤ m ∧ m ≤ 4 ∧ rowOK S r m ∧ mayB S (S 12 (r 0) 0) (r (m - 1)) = true
def ownR (S : BS) (r : RW) (k : Nat) : Int := (dlv S (S 12 (r k) 0) (r k) : Nat)
def nxtR (S : BS) (r : RW) (k : Nat) : Int := if k = 0 then 0 else (dlv S (S 12 (r k) 0) (r (k - 1)) : Nat)
def lstR (S : BS) (r : RW) (m : Nat) : Int := (dlv S (S 12 (r 0) 0) (r (m - 1)) : Nat)
def pgR (S : BS) (r : RW) : Nat → Int
  | 0 => 0
  | k + 1 => pgR S r k + ownR S r k - nxtR S r k
def gnR (S : BS) (r : RW) (m : Nat) : Int := pgR S r m - lstR S r m
theorem pg_cong {S : BS} {r q : RW} : ∀ {m : Nat}, (∀ i, i < m → r i = q i) → pgR S r m = pgR S q m
  | 0, _ => rfl
  | k + 1, h => by
    rw [pgR, pgR, pg_cong (fun i hi => h i (by omega))]
    unfold ownR nxtR
    rw [h k (by omega)]
    by_cases z : k = 0
    · rw [if_pos z, if_pos z]
    · rw [if_neg z, if_neg z, h (k - 1) (by omega)]
theorem gn_cong {S : BS} {r q : RW} {m : Nat} (h : ∀ i, i < m → r i = q i) (hm : 0 < m) : gnR S r m = gnR S q m := by
  unfold gnR lstR
  rw [pg_cong h, h 0 hm, h (m - 1) (by omega)]
def lexR (m : Nat) (r q : RW) : Prop := ∃ j, j < m ∧ (∀ i, i < j → r i = q i) ∧ r j < q j
def sameR (m : Nat) (r : RW) (s : Nat) (q : RW) : Prop := m = s ∧ ∀ i, i < m → r i = q i
def btR (S : BS) (m : Nat) (r : RW) (s : Nat) (q : RW) : Prop := gnR S q s < gnR S r m ∨ (gnR S q s = gnR S r m ∧ (m < s ∨ (m = s ∧ lexR m r q)))
theorem lex_asym {m : Nat} {r q : RW} (h : lexR m r q) : ¬ lexR m q r := by
  rintro ⟨j, h1, h2, h3⟩
  obtain ⟨i, g1, g2, g3⟩ := h
  rcases Nat.lt_trichotomy i j with z | z | z
  · have := h2 i z; omega
  · subst z; omega
  · have := g2 j z; omega
theorem lex_trans {m : Nat} {r q p : RW} (h : lexR m r q) (g : lexR m q p) : lexR m r p := by
  obtain ⟨i, h1, h2, h3⟩ := h
  obtain ⟨j, g1, g2, g3⟩ := g
  rcases Nat.lt_trichotomy i j with z | z | z
  · exact ⟨i, h1, fun x hx => (h2 x hx).trans (g2 x (by omega)), by rw [← g2 i z]; exact h3⟩
  · subst z
    exact ⟨i, h1, fun x hx => (h2 x hx).trans (g2 x hx), by omega⟩
  · exact ⟨j, g1, fun x hx => (h2 x (by omega)).trans (g2 x hx), by rw [h2 j z]; exact g3⟩
theorem lex_tri {r q : RW} : ∀ m, (∀ i, i < m → r i = q i) ∨ lexR m r q ∨ lexR m q r
  | 0 => Or.inl (fun i hi => absurd hi (by omega))
  | m + 1 => by
    rcases lex_tri (r := r) (q := q) m with h | ⟨j, h1, h2, h3⟩ | ⟨j, h1, h2, h3⟩
    · rcases Nat.lt_trichotomy (r m) (q m) with z | z | z
      · exact Or.inr (Or.inl ⟨m, by omega, h, z⟩)
      · refine Or.inl (fun i hi => ?_)
        by_cases e : i = m
        · rw [e]; exact z
        · exact h i (by omega)
      · exact Or.inr (Or.inr ⟨m, by omega, fun i hi => (h i hi).symm, z⟩)
    · exact Or.inr (Or.inl ⟨j, by omega, h2, h3⟩)
    · exact Or.inr (Or.inr ⟨j, by omega, h2, h3⟩)
theorem bt_asym {S : BS} {m s : Nat} {r q : RW} (h : btR S m r s q) : ¬ btR S s q m r := by
  unfold btR at h ⊢
  intro g
  rcases h with h | ⟨h1, h2⟩ <;> rcases g with g | ⟨g1, g2⟩
  · omega
  · omega
  · omega
  · rcases h2 with h2 | ⟨h2, h3⟩ <;> rcases g2 with g2 | ⟨g2, g3⟩
    · omega
    · omega
    · omega
    · subst h2
      exact lex_asym h3 g3
theorem bt_trans {S : BS} {m s u : Nat} {r q p : RW} (h : btR S m r s q) (g : btR S s q u p) : btR S m r u p := by
  unfold btR at h g ⊢
  rcases h with h | ⟨h1, h2⟩ <;> rcases g with g | ⟨g1, g2⟩
  · left; omega
  · left; omega
  · left; omega
  · right
    refine ⟨by omega, ?_⟩
    rcases h2 with h2 | ⟨h2, h3⟩ <;> rcases g2 with g2 | ⟨g2, g3⟩
    · left; omega
    · left; omega
    · left; omega
    · subst h2
      exact Or.inr ⟨g2, lex_trans h3 g3⟩
theorem bt_same {S : BS} {m s u : Nat} {r q p : RW} (h : btR S m r s q) (g : sameR s q u p) (hs : 0 < s) : btR S m r u p := by
  obtain ⟨e, g⟩ := g
  subst e
  unfold btR at h ⊢
  rw [← gn_cong g hs]
  rcases h with h | ⟨h1, h2 | ⟨h2, j, h3, h4, h5⟩⟩
  · exact Or.inl h
  · exact Or.inr ⟨h1, Or.inl h2⟩
  · exact Or.inr ⟨h1, Or.inr ⟨h2, j, h3, fun i hi => (h4 i hi).trans (g i (by omega)), by rw [← g j (by omega)]; exact h5⟩⟩
def BstP (S : BS) (P : Nat → RW → Prop) (m : Nat) (r : RW) : Prop := (m = 0 ∧ ∀ s q, P s q → ringOK S q s → gnR S q s ≤ 0) ∨ (ringOK S r m ∧ 0 < gnR S r m ∧ P m r ∧ ∀ s q, P s q → ringOK S q s → sameR m r s q ∨ btR S m r s q)
theorem Bst_uniq {S : BS} {m s : Nat} {r q : RW} {P : Nat → RW → Prop} (hP : ∀ s q, ringOK S q s → P s q) (h : BstP S P m r) (g : BstP S P s q) : m = s ∧ ∀ i, i < m → r i = q i := by
  rcases h with ⟨h1, h2⟩ | ⟨h1, h2, h3, h4⟩ <;> rcases g with ⟨g1, g2⟩ | ⟨g1, g2, g3, g4⟩
  · exact ⟨by omega, fun i hi => by omega⟩
  · have := h2 s q (hP s q g1) g1; omega
  · have := g2 m r (hP m r h1) h1; omega
  · rcases h4 s q (hP s q g1) g1 with z | z
    · exact z
    · rcases g4 m r (hP m r h1) h1 with ⟨y, y2⟩ | y
      · exact ⟨y.symm, fun i hi => (y2 i (by omega)).symm⟩
      · exact absurd y (bt_asym z)
theorem Bst_keep {S : BS} {m : Nat} {r : RW} {P P' : Nat → RW → Prop} (h : BstP S P m r) (hp : ∀ s q, P' s q → ringOK S q s → P s q ∨ gnR S q s ≤ 0 ∨ (m ≠ 0 ∧ (sameR m r s q ∨ btR S m r s q))) (h2 : ringOK S r m → P m r → P' m r) : BstP S P' m r := by
  rcases h with ⟨h1, h3⟩ | ⟨h1, h3, h4, h5⟩
  · refine Or.inl ⟨h1, fun s q hs hr => ?_⟩
    rcases hp s q hs hr with z | z | z
    · exact h3 s q z hr
    · exact z
    · exact absurd h1 z.1
  · refine Or.inr ⟨h1, h3, h2 h1 h4, fun s q hs hr => ?_⟩
    rcases hp s q hs hr with z | z | z
    · exact h5 s q z hr
    · exact Or.inr (Or.inl (by omega))
    · exact z.2
theorem Bst_new {S : BS} {m s : Nat} {r q : RW} {P P' : Nat → RW → Prop} (h : BstP S P m r) (hq : ringOK S q s) (hg : 0 < gnR S q s) (hb : m = 0 ∨ btR S s q m r) (hp : ∀ u p, P' u p → ringOK S p u → P u p ∨ gnR S p u ≤ 0 ∨ sameR s q u p) (h2 : P' s q) : BstP S P' s q := by
  refine Or.inr ⟨hq, hg, h2, fun u p hu hr => ?_⟩
  rcases hp u p hu hr with z | z | z
  · rcases h with ⟨h1, h3⟩ | ⟨h1, h3, h4, h5⟩
    · have := h3 u p z hr
      exact Or.inr (Or.inl (by omega))
    · have hb := hb.resolve_left (by have := h1.1; omega)
      rcases h5 u p z hr with y | y
      · exact Or.inr (bt_same hb y (by have := h1.1; omega))
      · exact Or.inr (bt_trans hb y)
  · exact Or.inr (Or.inl (by omega))
  · exact Or.inl z
