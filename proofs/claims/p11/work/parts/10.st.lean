/-! THE STATE of a roster, as numbers: what both classes keep -/
abbrev BS : Type := Nat → Nat → Nat → Nat
def hr (S : BS) (p : Nat) : Bool := S 4 p 0 == 1
/-- one number of the state becomes another -/
def up (S : BS) (f i j v : Nat) : BS := fun a b c => if a = f ∧ b = i ∧ c = j then v else S a b c
/-- a holder as an int: 8 is OPEN -/
def hv (a : Nat) : Int32 := if a = 8 then -1 else nI a
def cnt (f : Nat → Bool) : Nat → Nat
  | 0 => 0
  | n + 1 => cnt f n + (if f n = true then 1 else 0)
def sumN (f : Nat → Nat) : Nat → Nat
  | 0 => 0
  | n + 1 => sumN f n + f n
/-- where a new one of that day comes, of k that stand: behind all but those of later days at the end -/
def pos (f : Nat → Nat) (dyf : Nat → Nat) (v : Nat) : Nat → Nat
  | 0 => 0
  | k + 1 => if v < dyf (f k) then pos f dyf v k else k + 1
def insF (f : Nat → Nat) (dyf : Nat → Nat) (n d : Nat) : Nat → Nat := fun j =>
  if j < pos f dyf (dyf d) n then f j else if j = pos f dyf (dyf d) n then d else f (j - 1)
def sdF (dyf : Nat → Nat) : Nat → Nat → Nat
  | 0 => fun _ => 0
  | n + 1 => insF (sdF dyf n) dyf n n
abbrev sd (S : BS) (k : Nat) : Nat := sdF (fun d => S 10 d 0) (S 1 0 0) k
def WF (S : BS) : Prop := S 0 0 0 ≤ 8 ∧ S 1 0 0 ≤ 24 ∧ (∀ p, p < 8 → S 4 p 0 ≤ 1) ∧ (∀ p, S 0 0 0 ≤ p → S 4 p 0 = 0) ∧ (∀ p, p < 8 → S 3 p 0 ≤ 3) ∧ (∀ p k, p < 8 → k < 4 → S 5 p k ≤ 999) ∧ (∀ p, p < 8 → S 6 p 0 ≤ 8) ∧
  (∀ p r, p < 8 → r < 8 → S 7 p r ≤ 2 ∧ S 8 p r ≤ 365 ∧ S 9 p r ≤ 365 ∧ (S 7 p r = 2 → 2 ≤ S 8 p r)) ∧ (∀ d, d < 24 → S 10 d 0 ≤ 365 ∧ S 11 d 0 ≤ 3 ∧ S 12 d 0 ≤ 8) ∧ (∀ p d, p < 8 → d < 24 → S 13 p d ≤ 9) ∧ (∀ p d, S 1 0 0 ≤ d → S 13 p d = 0)
theorem WF.np {S : BS} (h : WF S) : S 0 0 0 ≤ 8 := h.1
theorem WF.nd {S : BS} (h : WF S) : S 1 0 0 ≤ 24 := h.2.1
theorem WF.hN {S : BS} (h : WF S) {p : Nat} (hp : p < 8) : S 4 p 0 ≤ 1 := h.2.2.1 p hp
theorem WF.out {S : BS} (h : WF S) {p : Nat} (hp : S 0 0 0 ≤ p) : S 4 p 0 = 0 := h.2.2.2.1 p hp
theorem WF.rk {S : BS} (h : WF S) {p : Nat} (hp : p < 8) : S 3 p 0 ≤ 3 := h.2.2.2.2.1 p hp
theorem WF.ps {S : BS} (h : WF S) {p k : Nat} (hp : p < 8) (hk : k < 4) : S 5 p k ≤ 999 := h.2.2.2.2.2.1 p k hp hk
theorem WF.nr {S : BS} (h : WF S) {p : Nat} (hp : p < 8) : S 6 p 0 ≤ 8 := h.2.2.2.2.2.2.1 p hp
theorem WF.rl {S : BS} (h : WF S) {p r : Nat} (hp : p < 8) (hr : r < 8) : S 7 p r ≤ 2 ∧ S 8 p r ≤ 365 ∧ S 9 p r ≤ 365 ∧ (S 7 p r = 2 → 2 ≤ S 8 p r) := h.2.2.2.2.2.2.2.1 p r hp hr
theorem WF.dk {S : BS} (h : WF S) {d : Nat} (hd : d < 24) : S 10 d 0 ≤ 365 ∧ S 11 d 0 ≤ 3 ∧ S 12 d 0 ≤ 8 := h.2.2.2.2.2.2.2.2.1 d hd
/-- who holds is here -/
def HO (S : BS) : Prop := ∀ d, d < S 1 0 0 → S 12 d 0 < 8 → S 4 (S 12 d 0) 0 = 1
theorem WF.dl {S : BS} (h : WF S) {p d : Nat} (hp : p < 8) (hd : d < 24) : S 13 p d ≤ 9 := h.2.2.2.2.2.2.2.2.2.1 p d hp hd
theorem WF.dl0 {S : BS} (h : WF S) {p d : Nat} (hd : S 1 0 0 ≤ d) : S 13 p d = 0 := h.2.2.2.2.2.2.2.2.2.2 p d hd
/-- the class's Book holds the state -/
def BK (M : Mm) (S : BS) : Prop := WF S ∧ M 1 0 = nI (S 0 0 0) ∧ M 1 1 = nI (S 1 0 0) ∧ M 1 2 = nI (S 2 0 0) ∧ (∀ d, d < S 1 0 0 → M 2 d = hv (S 12 d 0)) ∧ (∀ p, p < S 0 0 0 → M 3 p = nI (S 3 p 0)) ∧ (∀ p, p < 8 → M 4 p = bI (hr S p)) ∧ (∀ p k, p < S 0 0 0 → k < 4 → M 5 (p * 4 + k) = nI (S 5 p k)) ∧
  (∀ p, p < S 0 0 0 → M 6 p = nI (S 6 p 0)) ∧ (∀ p r, p < S 0 0 0 → r < S 6 p 0 → M 7 (p * 8 + r) = nI (S 7 p r) ∧ M 8 (p * 8 + r) = nI (S 8 p r) ∧ (S 7 p r ≠ 1 → M 9 (p * 8 + r) = nI (S 9 p r))) ∧ (∀ d, d < S 1 0 0 → M 10 d = nI (S 10 d 0) ∧ M 11 d = nI (S 11 d 0) ∧ M 12 d = nI (sd S d)) ∧ (∀ p d, p < S 0 0 0 → d < 24 → M 13 (p * 24 + d) = nI (S 13 p d))
theorem BK.wf {M : Mm} {S : BS} (h : BK M S) : WF S := h.1
theorem BK.np {M : Mm} {S : BS} (h : BK M S) : M 1 0 = nI (S 0 0 0) := h.2.1
theorem BK.nd {M : Mm} {S : BS} (h : BK M S) : M 1 1 = nI (S 1 0 0) := h.2.2.1
theorem BK.yr {M : Mm} {S : BS} (h : BK M S) : M 1 2 = nI (S 2 0 0) := h.2.2.2.1
theorem BK.ho {M : Mm} {S : BS} (h : BK M S) {d : Nat} (hd : d < S 1 0 0) : M 2 d = hv (S 12 d 0) := h.2.2.2.2.1 d hd
theorem BK.rk {M : Mm} {S : BS} (h : BK M S) {p : Nat} (hp : p < S 0 0 0) : M 3 p = nI (S 3 p 0) := h.2.2.2.2.2.1 p hp
theorem BK.here {M : Mm} {S : BS} (h : BK M S) {p : Nat} (hp : p < 8) : M 4 p = bI (hr S p) := h.2.2.2.2.2.2.1 p hp
theorem BK.ps {M : Mm} {S : BS} (h : BK M S) {p k : Nat} (hp : p < S 0 0 0) (hk : k < 4) : M 5 (p * 4 + k) = nI (S 5 p k) := h.2.2.2.2.2.2.2.1 p k hp hk
theorem BK.nr {M : Mm} {S : BS} (h : BK M S) {p : Nat} (hp : p < S 0 0 0) : M 6 p = nI (S 6 p 0) := h.2.2.2.2.2.2.2.2.1 p hp
theorem BK.rs {M : Mm} {S : BS} (h : BK M S) {p r : Nat} (hp : p < S 0 0 0) (hr : r < S 6 p 0) : M 7 (p * 8 + r) = nI (S 7 p r) := (h.2.2.2.2.2.2.2.2.2.1 p r hp hr).1
theorem BK.ra {M : Mm} {S : BS} (h : BK M S) {p r : Nat} (hp : p < S 0 0 0) (hr : r < S 6 p 0) : M 8 (p * 8 + r) = nI (S 8 p r) := (h.2.2.2.2.2.2.2.2.2.1 p r hp hr).2.1
theorem BK.rb {M : Mm} {S : BS} (h : BK M S) {p r : Nat} (hp : p < S 0 0 0) (hr : r < S 6 p 0) (h1 : S 7 p r ≠ 1) : M 9 (p * 8 + r) = nI (S 9 p r) := (h.2.2.2.2.2.2.2.2.2.1 p r hp hr).2.2 h1
theorem BK.dy {M : Mm} {S : BS} (h : BK M S) {d : Nat} (hd : d < S 1 0 0) : M 10 d = nI (S 10 d 0) := (h.2.2.2.2.2.2.2.2.2.2.1 d hd).1
theorem BK.kd {M : Mm} {S : BS} (h : BK M S) {d : Nat} (hd : d < S 1 0 0) : M 11 d = nI (S 11 d 0) := (h.2.2.2.2.2.2.2.2.2.2.1 d hd).2.1
theorem BK.st {M : Mm} {S : BS} (h : BK M S) {d : Nat} (hd : d < S 1 0 0) : M 12 d = nI (sd S d) := (h.2.2.2.2.2.2.2.2.2.2.1 d hd).2.2
theorem BK.dl {M : Mm} {S : BS} (h : BK M S) {p d : Nat} (hp : p < S 0 0 0) (hd : d < 24) : M 13 (p * 24 + d) = nI (S 13 p d) := h.2.2.2.2.2.2.2.2.2.2.2 p d hp hd
/-- memories alike off some places -/
def EqO (L : List Nat) (M M' : Mm) : Prop := ∀ k, k ∉ L → M' k = M k
theorem EqO.rf {L : List Nat} {M : Mm} : EqO L M M := fun _ _ => rfl
theorem EqO.tr {L : List Nat} {M M1 M2 : Mm} (h1 : EqO L M M1) (h2 : EqO L M1 M2) : EqO L M M2 := fun k hk => (h2 k hk).trans (h1 k hk)
theorem EqO.sub {L L' : List Nat} {M M' : Mm} (h : EqO L M M') (hs : ∀ k ∈ L, k ∈ L') : EqO L' M M' := fun k hk => h k (fun e => hk (hs k e))
theorem EqO.set {L : List Nat} {M : Mm} {k j : Nat} {v : Int32} (h : k ∈ L) : EqO L M (mset M k j v) := fun a ha => mset_ne (fun e => ha (e ▸ h))
theorem loop_up {P : Nat → Prop} (n : Nat) (h : ∀ i, i ≤ n → (i < n → P (i + 1)) → P i) : ∀ i, i ≤ n → P i := by
  intro i hi
  obtain ⟨k, hk⟩ : ∃ k, k = n - i := ⟨_, rfl⟩
  induction k generalizing i with
  | zero => exact h i hi (fun q => absurd q (by omega))
  | succ k ih => exact h i hi (fun q => ih (i + 1) q (by omega))
theorem hr_of {S : BS} {p : Nat} : hr S p = true ↔ S 4 p 0 = 1 := by simp [hr]
theorem hv_open (a : Nat) (h : a ≤ 8) : hv a = -1 ↔ a = 8 := by
  unfold hv
  by_cases e : a = 8
  · simp [e]
  · rw [if_neg e]
    refine ⟨fun h2 => ?_, fun h2 => absurd h2 e⟩
    exfalso
    have : (nI a).toInt = -1 := by rw [h2]; rfl
    rw [nI_toInt (by omega)] at this
    omega
theorem hv_eq {a p : Nat} (h : a ≤ 8) (hp : p < 8) : hv a = nI p ↔ a = p := by
  unfold hv
  by_cases e : a = 8
  · rw [if_pos e]
    refine ⟨fun h2 => ?_, fun h2 => by omega⟩
    exfalso
    have : (nI p).toInt = -1 := by rw [← h2]; rfl
    rw [nI_toInt (by omega)] at this
    omega
  · rw [if_neg e]; exact nI_eq (by omega) (by omega)
theorem hv_lt {a : Nat} (h : a ≤ 8) : hv a < 0 ↔ a = 8 := by
  unfold hv
  by_cases e : a = 8
  · simp only [e, if_true, iff_true]; decide
  · rw [if_neg e]; exact ⟨fun h2 => absurd h2 (nI_pos (by omega)), fun h2 => absurd h2 e⟩
theorem hv_p {p : Nat} (h : p < 8) : hv p = nI p := by unfold hv; rw [if_neg (by omega)]
theorem hv_8 : hv 8 = -1 := rfl
