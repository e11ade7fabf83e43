/-! texts: what they share; RULES, pure -/
def FxC (M M' : Mm) : Prop := ∀ k j, ((okO k j ∧ ¬ (k = 41 ∧ j = 1)) ∨ 57 ≤ k) → M' k j = M k j
def FxM (M M' : Mm) : Prop := ∀ k j, ((okO k j ∧ ¬ (k = 57 ∧ j = 19)) ∨ k < 57) → M' k j = M k j
theorem FxC.tr {M M1 M2 : Mm} (h1 : FxC M M1) (h2 : FxC M1 M2) : FxC M M2 := fun k j hk => (h2 k j hk).trans (h1 k j hk)
theorem FxM.tr {M M1 M2 : Mm} (h1 : FxM M M1) (h2 : FxM M1 M2) : FxM M M2 := fun k j hk => (h2 k j hk).trans (h1 k j hk)
theorem FxC.rf {M : Mm} : FxC M M := fun _ _ _ => rfl
theorem FxM.rf {M : Mm} : FxM M M := fun _ _ _ => rfl
theorem FxC.ofO {L : List Nat} {M M' : Mm} (h : EqO L M M') (hL : ∀ k ∈ L, k = 41 ∨ k ∈ LC) (h2 : ∀ j, j ≠ 1 → okO 41 j → M' 41 j = M 41 j) : FxC M M' := fun k j hk => by
  by_cases e : k ∈ L
  · rcases hL k e with z | z
    · subst z
      exact h2 j (by omega) (by rcases hk with q | q; exact q.1; omega)
    · have := LC_in z
      unfold okO at hk
      omega
  · rw [h k e]
theorem okO_41 {j : Nat} (hj : j ≠ 1) : ¬ okO 41 j := by unfold okO; omega
theorem FxC.of {L : List Nat} {M M' : Mm} (h : EqO L M M') (hL : ∀ k ∈ L, k = 41 ∨ k ∈ LC) : FxC M M' := FxC.ofO h hL (fun j hj ho => absurd ho (okO_41 hj))
theorem FxM.ofQ {L : List Nat} {M M' : Mm} (h : EqQ L M M') (hL : ∀ k ∈ L, k ∈ LM) : FxM M M' := fun k j hk => (FrM.ofQ h hL) k j (by rcases hk with q | q; exact Or.inl q.1; exact Or.inr q)
theorem FxC.fr {M M' : Mm} (h : FrC M M') : FxC M M' := fun k j hk => h k j (by rcases hk with q | q; exact Or.inl q.1; exact Or.inr q)
theorem FxM.fr {M M' : Mm} (h : FrM M M') : FxM M M' := fun k j hk => h k j (by rcases hk with q | q; exact Or.inl q.1; exact Or.inr q)
/-- calls that read the tape -/
theorem both_text {yF yM : Me} {args : List Value} (f : BS → Nat → (Nat → Nat) → Int32 × BS × Bool) (hc : ∀ (M : Mm) (S : BS) (n : Nat) (t : Nat → Nat) (Q : Po), BK M S → HM S → TPc n t M → (∀ M', FxC M M' → BK M' (f S n t).2.1 → M' 41 1 = (if (f S n t).2.2 = true then nI n else nI 0) → Q M' (some (.int (f S n t).1))) → Call 60 yF (.ref 0 :: args) M Q)
    (hm : ∀ (M : Mm) (S : BS) (n : Nat) (t : Nat → Nat) (Q : Po), MK (M 58) S → MC M → HM S → TPm n t M → (∀ M', FxM M M' → MK (M' 58) (f S n t).2.1 → M' 57 19 = (if (f S n t).2.2 = true then nI n else nI 0) → Q M' (some (.int (f S n t).1))) → Call 60 yM (.ref 57 :: args) M Q)
    (hH : ∀ S n t, n ≤ 150 → (∀ i, i < n → 1 ≤ t i ∧ t i ≤ 127) → WF S → HM S → HM (f S n t).2.1) : Both yF yM args := by
  intro M ⟨S, b, S', n, t, pn, pf, h1, h2, h3, h4⟩
  have e1 : M 41 1 = nI n := h4.2.2.2.2.1.2.2.1
  have e2 : M 57 19 = nI n := h4.2.2.2.2.2.1.2.2.1
  have hn : n ≤ 150 := h4.2.1
  have ht := h4.2.2.1
  have a4 : ∀ i, i < n → M 42 i = nI (t i) := h4.2.2.2.2.1.2.2.2.1
  have b4 : ∀ i, i < n → M 69 i = nI (t i) := h4.2.2.2.2.2.1.2.2.2.1
  refine hc M S n t _ h2 h1 ⟨hn, ht, e1, a4⟩ (fun M1 hf1 hB1 hn1 => ?_)
  have k58 : M1 58 = M 58 := funext (fun j => hf1 58 j (Or.inr (by omega)))
  have k57 : M1 57 = M 57 := funext (fun j => hf1 57 j (Or.inr (by omega)))
  have k69 : M1 69 = M 69 := funext (fun j => hf1 69 j (Or.inr (by omega)))
  have hC1 : MC M1 := ⟨fun j hj => by rw [hf1 60 j (Or.inr (by omega))]; exact h4.2.2.2.2.2.2.2.2.1 j hj, fun j hj => by rw [hf1 61 j (Or.inr (by omega))]; exact h4.2.2.2.2.2.2.2.2.2 j hj⟩
  refine ⟨IsI.rf, ?_⟩
  refine hm M1 S n t _ (by rw [k58]; exact h3) hC1 h1 ⟨hn, ht, by rw [k57]; exact e2, fun i hi => by rw [k69]; exact b4 i hi⟩ (fun M2 hf2 hM2 hn2 => ?_)
  have hB2 : BK M2 (f S n t).2.1 := hB1.keep (fun k j hr => hf2 k j (Or.inr (by unfold relB at hr; omega)))
  have m41 : M2 41 1 = M1 41 1 := hf2 41 1 (Or.inr (by omega))
  have hkk : ∀ k j, okO k j → ¬ (k = 41 ∧ j = 1) → ¬ (k = 57 ∧ j = 19) → M2 k j = M k j := fun k j ho n1 n2 => by rw [hf2 k j (Or.inl ⟨ho, n2⟩), hf1 k j (Or.inl ⟨ho, n1⟩)]
  have m42 : ∀ i, M2 42 i = M 42 i := fun i => hkk 42 i (by unfold okO; omega) (by omega) (by omega)
  have m69 : ∀ i, M2 69 i = M 69 i := fun i => hkk 69 i (by unfold okO; omega) (by omega) (by omega)
  have hfin : ∀ n2 : Nat, n2 ≤ n → M2 41 1 = nI n2 → M2 57 19 = nI n2 → OT M2 b S' n2 t pn pf := fun n2 hn2 x1 x2 =>
    h4.tape (by omega) (fun i hi => ht i (by omega)) (fun k j ho n1 n2 n3 n4 => hkk k j ho (fun z => n1 z.1) (fun z => n3 z)) x1 (fun i hi => by rw [m42]; exact a4 i (by omega)) x2 (fun i hi => by rw [m69]; exact b4 i (by omega))
  refine ⟨TyI.rf, (f S n t).2.1, b, S', if (f S n t).2.2 = true then n else 0, t, pn, pf, hH S n t hn ht h2.wf h1, hB2, hM2, ?_⟩
  cases hb : (f S n t).2.2 with
  | true =>
    rw [hb, if_pos rfl] at hn1 hn2
    rw [if_pos rfl]
    exact hfin n (Nat.le_refl _) (m41.trans hn1) hn2
  | false =>
    rw [hb, if_neg (by decide)] at hn1 hn2
    rw [if_neg (by decide)]
    exact hfin 0 (Nat.zero_le _) (m41.trans hn1) hn2
/-! what is right so far -/
theorem ok_mu {n : Nat} {t : Nat → Nat} {c : Nat} {q : TS} (h : okB (mu n t c q) = true) : okB q = true := by cases q with
  | inl a => rfl
  | inr f => cases h
theorem nuG_lt (n : Nat) (t : Nat → Nat) : ∀ (k a v : Nat), (nuG n t k a v).2 < (v + 1) * 10 ^ k
  | 0, a, v => by simp [nuG]
  | k + 1, a, v => by
    rw [nuG]
    split
    · rename_i h
      have hd : 48 ≤ tb n t a ∧ tb n t a ≤ 57 := of_decide_eq_true h
      refine Nat.lt_of_lt_of_le (nuG_lt n t k _ _) ?_
      rw [Nat.pow_succ, Nat.mul_comm (10 ^ k) 10, ← Nat.mul_assoc]
      exact Nat.mul_le_mul_right _ (by omega)
    · show v < (v + 1) * 10 ^ (k + 1)
      have : 0 < 10 ^ (k + 1) := Nat.pow_pos (by decide)
      exact Nat.lt_of_lt_of_le (Nat.lt_succ_self v) (Nat.le_mul_of_pos_right _ this)
theorem nuV_lt (n : Nat) (t : Nat → Nat) (q : TS) : nuV n t q < 1000 := by
  cases q with
  | inl a => exact nuG_lt n t 3 a 0
  | inr f => simp only [nuV]; omega
theorem ok_nu {n : Nat} {t : Nat → Nat} {lo hi : Nat} {q : TS} (h : okB (nuS n t lo hi q) = true) : okB q = true ∧ lo ≤ nuV n t q ∧ nuV n t q ≤ hi := by
  cases q with
  | inl a =>
    simp only [nuS] at h
    split at h
    · cases h
    · rename_i z
      refine ⟨rfl, ?_⟩
      simp only [nuV]
      omega
  | inr f => cases h
theorem ok_kd {n : Nat} {t : Nat → Nat} {q : TS} (h : okB (kdS n t q) = true) : okB q = true ∧ kdV n t q < 4 := by
  cases q with
  | inl a =>
    simp only [kdS] at h
    split at h
    · rename_i z; exact ⟨rfl, z⟩
    · cases h
  | inr f => cases h
theorem ok_tk {n : Nat} {t : Nat → Nat} {c : Nat} {q : TS} : okB (tkS n t c q) = okB q := by
  cases q with
  | inl a =>
    simp only [tkS]
    split <;> rfl
  | inr f => rfl
theorem tk_ok {n : Nat} {t : Nat → Nat} {c : Nat} {q : TS} (h : tk n t c q = true) : okB q = true := by
  cases q with
  | inl a => rfl
  | inr f => cases h
theorem ok_en {n : Nat} {q : TS} (h : okB (enS n q) = true) : okB q = true ∧ enS n q = q := by
  cases q with
  | inl a =>
    simp only [enS] at h ⊢
    split at h
    · cases h
    · rename_i z; rw [if_neg z]; exact ⟨rfl, rfl⟩
  | inr f => cases h
theorem ok_fl {q : TS} : okB (flA q) = false := by cases q <;> rfl
theorem en_fl {n : Nat} {q : TS} : enS n (flA q) = flA q := by cases q <;> rfl
theorem tk_fl {n : Nat} {t : Nat → Nat} {c : Nat} {q : TS} : tk n t c (flA q) = false := by cases q <;> rfl
theorem tk_no {n : Nat} {t : Nat → Nat} {c : Nat} {q : TS} (h : okB q = false) : tk n t c q = false := by
  cases q with
  | inl a => cases h
  | inr f => rfl
theorem en_no {n : Nat} {q : TS} (h : okB q = false) : enS n q = q := by
  cases q with
  | inl a => cases h
  | inr f => rfl
abbrev RU : Type := Nat × Nat × Nat
def ruP (n : Nat) (t : Nat → Nat) (q : TS) : TS × RU :=
  if tk n t 100 q = true then (nuS n t (nuV n t (tkS n t 100 q)) 365 (mu n t 45 (nuS n t 0 365 (tkS n t 100 q))), (0, nuV n t (tkS n t 100 q), nuV n t (mu n t 45 (nuS n t 0 365 (tkS n t 100 q)))))
  else if tk n t 107 q = true then (kdS n t (tkS n t 107 q), (1, kdV n t (tkS n t 107 q), 0))
  else (nuS n t 0 (nuV n t (mu n t 114 q) - 1) (mu n t 58 (nuS n t 2 9 (mu n t 114 q))), (2, nuV n t (mu n t 114 q), nuV n t (mu n t 58 (nuS n t 2 9 (mu n t 114 q)))))
def ruOK (x : RU) : Prop := x.1 ≤ 2 ∧ x.2.1 ≤ 365 ∧ x.2.2 ≤ 365 ∧ (x.1 = 2 → 2 ≤ x.2.1)
theorem ruP_ok {n : Nat} {t : Nat → Nat} {q : TS} (h : okB (ruP n t q).1 = true) : okB q = true ∧ ruOK (ruP n t q).2 := by
  unfold ruP at h ⊢
  by_cases c1 : tk n t 100 q = true
  · rw [if_pos c1] at h ⊢
    obtain ⟨h1, h2, h3⟩ := ok_nu h
    obtain ⟨h4, h5, h6⟩ := ok_nu (ok_mu h1)
    exact ⟨tk_ok c1, by show 0 ≤ 2; omega, h6, h3, fun z => by cases z⟩
  · rw [if_neg c1] at h ⊢
    by_cases c2 : tk n t 107 q = true
    · rw [if_pos c2] at h ⊢
      obtain ⟨h1, h2⟩ := ok_kd h
      exact ⟨tk_ok c2, by show 1 ≤ 2; omega, by show kdV n t (tkS n t 107 q) ≤ 365; omega, Nat.zero_le _, fun z => by cases z⟩
    · rw [if_neg c2] at h ⊢
      obtain ⟨h1, h2, h3⟩ := ok_nu h
      obtain ⟨h4, h5, h6⟩ := ok_nu (ok_mu h1)
      have := nuV_lt n t (mu n t 114 q)
      exact ⟨ok_mu h4, Nat.le_refl 2, by show nuV n t (mu n t 114 q) ≤ 365; omega, by show nuV n t (mu n t 58 (nuS n t 2 9 (mu n t 114 q))) ≤ 365; omega, fun _ => h5⟩
def rsP (n : Nat) (t : Nat → Nat) : Nat → TS → List RU → TS × List RU
  | 0, q, l => (flA q, l)
  | r + 1, q, l => if tk n t 59 (ruP n t q).1 = true then rsP n t r (tkS n t 59 (ruP n t q).1) (l ++ [(ruP n t q).2]) else (enS n (ruP n t q).1, l ++ [(ruP n t q).2])
theorem rsP_ok {n : Nat} {t : Nat → Nat} : ∀ {r : Nat} {q : TS} {l : List RU}, (∀ x ∈ l, ruOK x) → okB (rsP n t r q l).1 = true → (∀ x ∈ (rsP n t r q l).2, ruOK x) ∧ (rsP n t r q l).2.length ≤ l.length + r ∧ l.length < (rsP n t r q l).2.length
  | 0, q, l, hl, h => by rw [rsP, ok_fl] at h; cases h
  | r + 1, q, l, hl, h => by
    have hx : ∀ {y : RU}, ruOK y → ∀ x ∈ l ++ [y], ruOK x := fun hy x hx => by
      rcases List.mem_append.mp hx with z | z
      · exact hl x z
      · rw [List.mem_singleton] at z; rw [z]; exact hy
    rw [rsP] at h ⊢
    by_cases c : tk n t 59 (ruP n t q).1 = true
    · rw [if_pos c] at h ⊢
      have h1 := rsP_ok (hx (ruP_ok (tk_ok c)).2) h
      rw [List.length_append, List.length_singleton] at h1
      exact ⟨h1.1, by omega, by omega⟩
    · rw [if_neg c] at h ⊢
      have h2 := ruP_ok (ok_en h).1
      refine ⟨hx h2.2, ?_, ?_⟩
      · show (l ++ [(ruP n t q).2]).length ≤ _
        rw [List.length_append, List.length_singleton]; omega
      · show _ < (l ++ [(ruP n t q).2]).length
        rw [List.length_append, List.length_singleton]; omega
