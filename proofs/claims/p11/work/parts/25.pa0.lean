/-! PATHS, as lists: who was come to, by which duty (24: by none) -/
abbrev PS : Type := List Nat × (Nat → Nat)
def meetP (q : PS) (p d : Nat) : PS := if p ∈ q.1 then q else (q.1 ++ [p], fun x => if x = p then d else q.2 x)
def mwP (S : BS) (d : Nat) : Nat → PS → PS
  | 0, q => q
  | n + 1, q => if mayB S n d = true then meetP (mwP S d n q) n d else mwP S d n q
def gdP (S : BS) (k p : Nat) : Nat → PS → PS
  | 0, q => q
  | n + 1, q => if S 11 n 0 = k ∧ S 12 n 0 = p then mwP S n (S 0 0 0) (gdP S k p n q) else gdP S k p n q
def gsP (S : BS) (k : Nat) : Nat → Nat → PS → PS
  | 0, _, q => q
  | f + 1, i, q => if i < q.1.length then gsP S k f (i + 1) (gdP S k (q.1.getD i 0) (S 1 0 0) q) else q
/-- the least of them by LOADS, of like ones the first (8: none) -/
def lmP (S : BS) (k : Nat) (l : List Nat) : Nat → Nat
  | 0 => 8
  | n + 1 => if lmP S k l n = 8 ∨ loadN S (l.getD n 0) k < loadN S (lmP S k l n) k then l.getD n 0 else lmP S k l n
/-- what holds of a path: o tells whether an OPEN duty may be its beginning -/
def TR (S : BS) (k : Nat) (o : Prop) (q : PS) : Prop := q.1.Nodup ∧ (∀ p ∈ q.1, p < S 0 0 0) ∧ ∀ i, i < q.1.length → (q.2 (q.1.getD i 0) = 24 ∧ i = 0 ∧ ¬ o) ∨ (q.2 (q.1.getD i 0) < S 1 0 0 ∧ S 11 (q.2 (q.1.getD i 0)) 0 = k ∧ mayB S (q.1.getD i 0) (q.2 (q.1.getD i 0)) = true ∧ ((o ∧ S 12 (q.2 (q.1.getD i 0)) 0 = 8) ∨ ∃ j, j < i ∧ q.1.getD j 0 = S 12 (q.2 (q.1.getD i 0)) 0))
theorem getD_mem {l : List Nat} {i : Nat} (h : i < l.length) : l.getD i 0 ∈ l := by
  rw [List.getD_eq_getElem?_getD, List.getElem?_eq_getElem h]
  exact List.getElem_mem h
theorem getD_app {l : List Nat} {p i : Nat} (h : i < l.length) : (l ++ [p]).getD i 0 = l.getD i 0 := by
  rw [List.getD_eq_getElem?_getD, List.getD_eq_getElem?_getD, List.getElem?_append_left h]
theorem getD_last {l : List Nat} {p : Nat} : (l ++ [p]).getD l.length 0 = p := by
  rw [List.getD_eq_getElem?_getD, List.getElem?_append_right (Nat.le_refl _)]
  simp
theorem getD_of_mem {l : List Nat} {p : Nat} (h : p ∈ l) : ∃ i, i < l.length ∧ l.getD i 0 = p := by
  obtain ⟨i, hi, e⟩ := List.getElem_of_mem h
  exact ⟨i, hi, by rw [List.getD_eq_getElem?_getD, List.getElem?_eq_getElem hi]; exact e⟩
theorem nodup_len : ∀ {n : Nat} {l : List Nat}, l.Nodup → (∀ p ∈ l, p < n) → l.length ≤ n
  | 0, l, _, hb => by
    cases l with
    | nil => exact Nat.le_refl 0
    | cons a l => exact absurd (hb a List.mem_cons_self) (by omega)
  | n + 1, l, h, hb => by
    by_cases hn : n ∈ l
    · have h1 := nodup_len (n := n) (l := l.erase n) (h.erase n) (fun p hp => by
        have h2 := (List.Nodup.mem_erase_iff h).mp hp
        have := hb p h2.2
        have := h2.1
        omega)
      rw [List.length_erase_of_mem hn] at h1
      omega
    · have h1 := nodup_len (n := n) (l := l) h (fun p hp => by
        have := hb p hp
        have : p ≠ n := fun e => hn (e ▸ hp)
        omega)
      omega
theorem TR.len {S : BS} (hW : WF S) {k : Nat} {o : Prop} {q : PS} (h : TR S k o q) : q.1.length ≤ S 0 0 0 := nodup_len h.1 h.2.1
theorem TR.meet {S : BS} {k : Nat} {o : Prop} {q : PS} (h : TR S k o q) {p d : Nat} (hp : p < S 0 0 0) (hd : d < S 1 0 0) (hk : S 11 d 0 = k) (hm : mayB S p d = true) (hb : (o ∧ S 12 d 0 = 8) ∨ S 12 d 0 ∈ q.1) : TR S k o (meetP q p d) := by
  unfold meetP
  split
  · exact h
  · rename_i hn
    obtain ⟨h1, h2, h3⟩ := h
    refine ⟨?_, fun x hx => ?_, fun i hi => ?_⟩
    · rw [List.nodup_append]
      refine ⟨h1, by simp, fun a ha b hb2 e => ?_⟩
      rw [List.mem_singleton] at hb2
      subst hb2
      subst e
      exact hn ha
    · rcases List.mem_append.mp hx with z | z
      · exact h2 x z
      · rw [List.mem_singleton.mp z]; exact hp
    · dsimp only at hi ⊢
      rw [List.length_append, List.length_singleton] at hi
      rcases Nat.lt_or_ge i q.1.length with z | z
      · have hne : q.1.getD i 0 ≠ p := fun e => hn (e ▸ getD_mem z)
        rw [getD_app z, if_neg hne]
        rcases h3 i z with ⟨a1, a2⟩ | ⟨a1, a2, a3, a4⟩
        · exact Or.inl ⟨a1, a2⟩
        · refine Or.inr ⟨a1, a2, a3, ?_⟩
          rcases a4 with a4 | ⟨j, hj, e⟩
          · exact Or.inl a4
          · exact Or.inr ⟨j, hj, by rw [getD_app (by omega)]; exact e⟩
      · have : i = q.1.length := by omega
        subst this
        rw [getD_last, if_pos rfl]
        refine Or.inr ⟨hd, hk, hm, ?_⟩
        rcases hb with hb | hb
        · exact Or.inl hb
        · obtain ⟨j, hj, e⟩ := getD_of_mem hb
          exact Or.inr ⟨j, hj, by rw [getD_app hj]; exact e⟩
theorem meetP_sub (q : PS) (p d : Nat) : ∀ x ∈ q.1, x ∈ (meetP q p d).1 := fun x hx => by
  unfold meetP
  split
  · exact hx
  · exact List.mem_append.mpr (Or.inl hx)
theorem meetP_len (q : PS) (p d : Nat) : q.1.length ≤ (meetP q p d).1.length := by
  unfold meetP
  split
  · exact Nat.le_refl _
  · rw [List.length_append]; omega
theorem meetP_get (q : PS) (p d : Nat) {i : Nat} (h : i < q.1.length) : (meetP q p d).1.getD i 0 = q.1.getD i 0 := by
  unfold meetP
  split
  · rfl
  · exact getD_app h
/-- a step keeps what it found, and its beginning -/
def exP (q q' : PS) : Prop := q.1.length ≤ q'.1.length ∧ (∀ i, i < q.1.length → q'.1.getD i 0 = q.1.getD i 0) ∧ ∀ x ∈ q.1, x ∈ q'.1 ∧ q'.2 x = q.2 x
theorem exP.rf (q : PS) : exP q q := ⟨Nat.le_refl _, fun _ _ => rfl, fun x hx => ⟨hx, rfl⟩⟩
theorem exP.tr {a b c : PS} (h : exP a b) (h2 : exP b c) : exP a c := ⟨Nat.le_trans h.1 h2.1, fun i hi => (h2.2.1 i (by have := h.1; omega)).trans (h.2.1 i hi), fun x hx => ⟨(h2.2.2 x (h.2.2 x hx).1).1, ((h2.2.2 x (h.2.2 x hx).1).2).trans (h.2.2 x hx).2⟩⟩
theorem meetP_ex (q : PS) (p d : Nat) : exP q (meetP q p d) := ⟨meetP_len q p d, fun i hi => meetP_get q p d hi, fun x hx => ⟨meetP_sub q p d x hx, by
  unfold meetP
  split
  · rfl
  · rename_i hn
    have hne : x ≠ p := fun e => hn (by rw [← e]; exact hx)
    show (if x = p then d else q.2 x) = q.2 x
    rw [if_neg hne]⟩⟩
theorem mwP_ok {S : BS} {k : Nat} {o : Prop} {d : Nat} (hd : d < S 1 0 0) (hk : S 11 d 0 = k) : ∀ {n : Nat} {q : PS}, n ≤ S 0 0 0 → TR S k o q → ((o ∧ S 12 d 0 = 8) ∨ S 12 d 0 ∈ q.1) → TR S k o (mwP S d n q) ∧ exP q (mwP S d n q)
  | 0, q, _, h, _ => ⟨h, exP.rf q⟩
  | n + 1, q, hn, h, hb => by
    obtain ⟨h1, h2⟩ := mwP_ok hd hk (n := n) (by omega) h hb
    rw [mwP]
    split
    · rename_i hm
      refine ⟨h1.meet (by omega) hd hk hm ?_, h2.tr (meetP_ex _ _ _)⟩
      rcases hb with hb | hb
      · exact Or.inl hb
      · exact Or.inr (h2.2.2 _ hb).1
    · exact ⟨h1, h2⟩
theorem gdP_ok {S : BS} {k : Nat} {o : Prop} {p : Nat} : ∀ {n : Nat} {q : PS}, n ≤ S 1 0 0 → TR S k o q → p ∈ q.1 → TR S k o (gdP S k p n q) ∧ exP q (gdP S k p n q)
  | 0, q, _, h, _ => ⟨h, exP.rf q⟩
  | n + 1, q, hn, h, hp => by
    obtain ⟨h1, h2⟩ := gdP_ok (n := n) (by omega) h hp
    rw [gdP]
    split
    · rename_i hc
      obtain ⟨h3, h4⟩ := mwP_ok (o := o) (d := n) (by omega) hc.1 (Nat.le_refl _) h1 (Or.inr (by rw [hc.2]; exact (h2.2.2 _ hp).1))
      exact ⟨h3, h2.tr h4⟩
    · exact ⟨h1, h2⟩
theorem gsP_ok {S : BS} {k : Nat} {o : Prop} : ∀ {f i : Nat} {q : PS}, TR S k o q → TR S k o (gsP S k f i q) ∧ exP q (gsP S k f i q)
  | 0, i, q, h => ⟨h, exP.rf q⟩
  | f + 1, i, q, h => by
    rw [gsP]
    split
    · rename_i hi
      obtain ⟨h1, h2⟩ := gdP_ok (n := S 1 0 0) (Nat.le_refl _) h (getD_mem hi)
      obtain ⟨h3, h4⟩ := gsP_ok (f := f) (i := i + 1) h1
      exact ⟨h3, h2.tr h4⟩
    · exact ⟨h, exP.rf q⟩
theorem TR.one (S : BS) (k : Nat) {p : Nat} (hp : p < S 0 0 0) : TR S k False ([p], fun _ => 24) := by
  refine ⟨by simp, fun x hx => by rw [List.mem_singleton.mp hx]; exact hp, fun i hi => ?_⟩
  have : i = 0 := by simp at hi; omega
  subst this
  exact Or.inl ⟨rfl, rfl, fun h => h⟩
theorem TR.nil (S : BS) (k : Nat) (o : Prop) : TR S k o ([], fun _ => 24) := ⟨by simp, fun x hx => by simp at hx, fun i hi => by simp at hi⟩
theorem lmP_mem {S : BS} {k : Nat} {l : List Nat} (h8 : ∀ p ∈ l, p < 8) : ∀ {n : Nat}, n ≤ l.length → (n = 0 ∧ lmP S k l n = 8) ∨ (0 < n ∧ lmP S k l n ∈ l)
  | 0, _ => Or.inl ⟨rfl, rfl⟩
  | n + 1, hn => by
    refine Or.inr ⟨by omega, ?_⟩
    rw [lmP]
    split
    · exact getD_mem (by omega)
    · rename_i hc
      rcases lmP_mem h8 (n := n) (by omega) with ⟨_, e⟩ | ⟨_, e⟩
      · exact absurd (Or.inl e) hc
      · exact e
/-- SHIFTED -/
def shP : Nat → BS → (Nat → Nat) → Nat → BS
  | 0, S, _, _ => S
  | n + 1, S, b, p => if p < 8 ∧ b p < 24 then shP n (up S 12 (b p) 0 p) b (S 12 (b p) 0) else S
def dnP : Nat → BS → (Nat → Nat) → Nat → Prop
  | 0, _, b, p => ¬ (p < 8 ∧ b p < 24)
  | n + 1, S, b, p => ¬ (p < 8 ∧ b p < 24) ∨ dnP n (up S 12 (b p) 0 p) b (S 12 (b p) 0)
theorem shP_more : ∀ {n : Nat} {S : BS} {b : Nat → Nat} {p : Nat}, dnP n S b p → ∀ m, shP (n + m) S b p = shP n S b p
  | 0, S, b, p, h, m => by
    rw [shP]
    cases m with
    | zero => rfl
    | succ m => rw [Nat.zero_add, shP, if_neg h]
  | n + 1, S, b, p, h, m => by
    rw [show n + 1 + m = (n + m) + 1 by omega, shP, shP]
    split
    · rename_i hc
      rcases h with h | h
      · exact absurd hc h
      · exact shP_more h m
    · rfl
theorem dnP_mono {m : Nat} : ∀ {n : Nat} {S : BS} {b : Nat → Nat} {p : Nat}, dnP n S b p → dnP (n + m) S b p := by
  have mono : ∀ {n : Nat} {S : BS} {b : Nat → Nat} {p : Nat}, dnP n S b p → dnP (n + 1) S b p := by
    intro n
    induction n with
    | zero => intro S b p h; exact Or.inl h
    | succ n ihn =>
      intro S b p h
      rcases h with h | h
      · exact Or.inl h
      · exact Or.inr (ihn h)
  induction m with
  | zero => intro n S b p h; exact h
  | succ m ihm => intro n S b p h; exact mono (ihm h)
theorem shP_8 : ∀ (n : Nat) (S : BS) (b : Nat → Nat), shP n S b 8 = S
  | 0, S, b => rfl
  | n + 1, S, b => by rw [shP, if_neg (fun z => absurd z.1 (by omega))]
theorem dnP_8 (S : BS) (b : Nat → Nat) : dnP 0 S b 8 := fun z => absurd z.1 (by omega)
/-- holders as they were, of the DUTIES by which the first were come to -/
def AG (S0 S : BS) (q : PS) (i : Nat) : Prop := ∀ j, j ≤ i → q.2 (q.1.getD j 0) < 24 → S 12 (q.2 (q.1.getD j 0)) 0 = S0 12 (q.2 (q.1.getD j 0)) 0
theorem AG_step {S0 S : BS} (hW : WF S0) {k : Nat} {o : Prop} {q : PS} (h : TR S0 k o q) {i : Nat} (hi : i < q.1.length) (hb : q.2 (q.1.getD i 0) < 24) (hag : AG S0 S q i) : (o ∧ S 12 (q.2 (q.1.getD i 0)) 0 = 8) ∨ ∃ j, j < i ∧ q.1.getD j 0 = S 12 (q.2 (q.1.getD i 0)) 0 ∧ AG S0 (up S 12 (q.2 (q.1.getD i 0)) 0 (q.1.getD i 0)) q j := by
  have hho := hag i (Nat.le_refl i) hb
  rw [hho]
  rcases h.2.2 i hi with ⟨a1, _⟩ | ⟨a1, a2, a3, a4⟩
  · omega
  · rcases a4 with a4 | ⟨j, hj, e⟩
    · exact Or.inl a4
    · refine Or.inr ⟨j, hj, e, fun j2 hj2 hlt => ?_⟩
      by_cases e3 : q.2 (q.1.getD j2 0) = q.2 (q.1.getD i 0)
      · exfalso
        rcases h.2.2 j2 (by omega) with ⟨b1, _⟩ | ⟨b1, b2, b3, b4⟩
        · omega
        · rw [e3] at b4
          rcases b4 with ⟨_, b4⟩ | ⟨j4, hj4, e4⟩
          · have := h.2.1 _ (getD_mem (show j < q.1.length by omega))
            rw [e, b4] at this
            have := hW.np
            omega
          · rw [← e] at e4
            have := (List.getElem_inj h.1 (i := j4) (j := j) (h₀ := by omega) (h₁ := by omega)).mp (by
              rw [List.getD_eq_getElem?_getD, List.getD_eq_getElem?_getD, List.getElem?_eq_getElem (by omega), List.getElem?_eq_getElem (by omega)] at e4
              exact e4)
            omega
      · rw [up_off (by omega)]
        exact hag j2 (by omega) hlt
theorem dnP_of {S0 : BS} (hW : WF S0) {k : Nat} {o : Prop} {q : PS} (h : TR S0 k o q) : ∀ {i : Nat} {S : BS}, i < q.1.length → AG S0 S q i → dnP (i + 1) S q.2 (q.1.getD i 0) := by
  intro i
  induction i using Nat.strongRecOn with
  | ind i ih =>
    intro S hi hag
    by_cases hc : q.1.getD i 0 < 8 ∧ q.2 (q.1.getD i 0) < 24
    · refine Or.inr ?_
      rcases AG_step hW h hi hc.2 hag with ⟨_, e8⟩ | ⟨j, hj, e, hag2⟩
      · rw [e8]
        have := dnP_mono (m := i) (dnP_8 (up S 12 (q.2 (q.1.getD i 0)) 0 (q.1.getD i 0)) q.2)
        rw [Nat.zero_add] at this
        exact this
      · rw [← e]
        have := dnP_mono (m := i - (j + 1)) (ih j hj (by omega) hag2)
        rw [show j + 1 + (i - (j + 1)) = i by omega] at this
        exact this
    · exact Or.inl hc
/-- the row of shifts from a place: as far as it goes -/
theorem shP_step {S0 S : BS} (hW : WF S0) {k : Nat} {o : Prop} {q : PS} (h : TR S0 k o q) {i : Nat} (hi : i < q.1.length) (hb : q.2 (q.1.getD i 0) < 24) (hag : AG S0 S q i) {j : Nat} (hj : j < i) (e : q.1.getD j 0 = S 12 (q.2 (q.1.getD i 0)) 0) (hag2 : AG S0 (up S 12 (q.2 (q.1.getD i 0)) 0 (q.1.getD i 0)) q j) : shP (i + 1) S q.2 (q.1.getD i 0) = shP (j + 1) (up S 12 (q.2 (q.1.getD i 0)) 0 (q.1.getD i 0)) q.2 (q.1.getD j 0) := by
  have h8 := h.2.1 _ (getD_mem hi)
  have := hW.np
  rw [shP, if_pos ⟨by omega, hb⟩, ← e]
  have := shP_more (dnP_of hW h (by omega) hag2) (i - (j + 1))
  rw [show j + 1 + (i - (j + 1)) = i by omega] at this
  exact this
