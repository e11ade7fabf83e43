theorem g_if_eq_tt {m : Me} {d : Nat} {Q : Po} {pc : Nat} {ls : Lv} {st : St} {M : Mm} {off : Int} (tgt : Nat) (hd : decode m.2.1 pc = .ok (.ifCond .eq off, 3)) (ht : (pc : Int) + off = (tgt : Int)) (kf : Go m d Q (pc + 3) ls st M) : Go m d Q pc ls (.int (bI true) :: st) M := g_if_eq_b tgt hd ht (fun h => by cases h) (fun _ => kf)
theorem g_if_ne_tt {m : Me} {d : Nat} {Q : Po} {pc : Nat} {ls : Lv} {st : St} {M : Mm} {off : Int} (tgt : Nat) (hd : decode m.2.1 pc = .ok (.ifCond .ne off, 3)) (ht : (pc : Int) + off = (tgt : Int)) (kt : Go m d Q tgt ls st M) : Go m d Q pc ls (.int (bI true) :: st) M := g_if_ne_b tgt hd ht (fun _ => kt) (fun h => by cases h)
theorem g_if_eq_ff {m : Me} {d : Nat} {Q : Po} {pc : Nat} {ls : Lv} {st : St} {M : Mm} {off : Int} (tgt : Nat) (hd : decode m.2.1 pc = .ok (.ifCond .eq off, 3)) (ht : (pc : Int) + off = (tgt : Int)) (kt : Go m d Q tgt ls st M) : Go m d Q pc ls (.int (bI false) :: st) M := g_if_eq_b tgt hd ht (fun _ => kt) (fun h => by cases h)
theorem g_if_ne_ff {m : Me} {d : Nat} {Q : Po} {pc : Nat} {ls : Lv} {st : St} {M : Mm} {off : Int} (tgt : Nat) (hd : decode m.2.1 pc = .ok (.ifCond .ne off, 3)) (ht : (pc : Int) + off = (tgt : Int)) (kf : Go m d Q (pc + 3) ls st M) : Go m d Q pc ls (.int (bI false) :: st) M := g_if_ne_b tgt hd ht (fun h => by cases h) (fun _ => kf)
/-- within 0 .. n - 1 -/
def inR (x : Int32) (n : Nat) : Bool := decide (0 ≤ x.toInt ∧ x.toInt < (n : Int))
theorem inR_nI {p n : Nat} (h : p < 2 ^ 31) : inR (nI p) n = decide (p < n) := by
  unfold inR
  rw [nI_toInt h]
  by_cases q : p < n
  · simp [q]
  · simp only [q, decide_false, decide_eq_false_iff_not]; omega
theorem inR_true {x : Int32} {n : Nat} (h : inR x n = true) : ∃ p, p < n ∧ x = nI p := by
  unfold inR at h
  simp only [decide_eq_true_eq] at h
  refine ⟨x.toInt.toNat, by omega, ?_⟩
  apply Int32.toInt_inj.mp
  have hx : x.toInt < 2 ^ 31 := Int32.toInt_lt x
  rw [nI_toInt (by omega)]
  omega
theorem inR_m1 (n : Nat) : inR (-1) n = false := by
  unfold inR
  simp only [decide_eq_false_iff_not]
  intro h
  exact absurd h.1 (by decide)
theorem lt0_toInt {x : Int32} : x < 0 ↔ x.toInt < 0 := by rw [Int32.lt_iff_toInt_lt]; exact Iff.rfl
theorem lenI_toInt {n : Nat} {x : Int32} (h : n < 2 ^ 31) : nI n ≤ x ↔ (n : Int) ≤ x.toInt := by rw [Int32.le_iff_toInt_le, nI_toInt h]
theorem toInt_lenI {n : Nat} {x : Int32} (h : n < 2 ^ 31) : x ≤ nI n ↔ x.toInt ≤ (n : Int) := by rw [Int32.le_iff_toInt_le, nI_toInt h]
theorem toInt_ltnI {n : Nat} {x : Int32} (h : n < 2 ^ 31) : x < nI n ↔ x.toInt < (n : Int) := by rw [Int32.lt_iff_toInt_lt, nI_toInt h]
theorem ltnI_toInt {n : Nat} {x : Int32} (h : n < 2 ^ 31) : nI n < x ↔ (n : Int) < x.toInt := by rw [Int32.lt_iff_toInt_lt, nI_toInt h]
theorem nI_div {a b : Nat} (ha : a < 2 ^ 31) (hb : b < 2 ^ 31) : nI a / nI b = nI (a / b) := by
  apply Int32.toInt_inj.mp
  have hq : a / b < 2 ^ 31 := Nat.lt_of_le_of_lt (Nat.div_le_self a b) ha
  rw [Int32.toInt_div_of_ne_left _ _ (by
    intro e
    have := congrArg Int32.toInt e
    rw [nI_toInt ha] at this
    have h2 : Int32.minValue.toInt = -2147483648 := by decide
    omega), nI_toInt ha, nI_toInt hb, nI_toInt hq]
  exact (Int.ofNat_tdiv a b).symm
theorem nI_rem {a b : Nat} (ha : a < 2 ^ 31) (hb : b < 2 ^ 31) : nI a - (nI a / nI b) * nI b = nI (a % b) := by
  rw [nI_div ha hb, nI_mul, nI_sub (Nat.div_mul_le_self a b)]
  congr 1
  have := Nat.div_add_mod a b
  rw [Nat.mul_comm] at this
  omega
theorem nI_abs {a b : Nat} (ha : a < 2 ^ 30) (hb : b < 2 ^ 30) : (if 0 ≤ nI a - nI b then nI a - nI b else 0 - (nI a - nI b)) = nI (if b ≤ a then a - b else b - a) := by
  by_cases h : b ≤ a
  · rw [nI_sub h, if_pos (nI_pos' (by omega)), if_pos h]
  · have e : 0 - (nI a - nI b) = nI (b - a) := by
      rw [← nI_sub (show a ≤ b by omega)]
      generalize nI a = x
      generalize nI b = y
      rw [Int32.zero_sub, Int32.neg_sub]
    have e2 : ¬ 0 ≤ nI a - nI b := by
      have h3 : (nI a - nI b).toInt = (a : Int) - (b : Int) := by
        rw [Int32.toInt_sub, nI_toInt (by omega), nI_toInt (by omega), Int.bmod_def]
        split <;> omega
      rw [Int32.le_iff_toInt_le, h3]
      have h0 : (0 : Int32).toInt = 0 := by decide
      omega
    rw [if_neg e2, e, if_neg h]
theorem g_idiv_n {m : Me} {d : Nat} {Q : Po} {pc : Nat} {ls : Lv} {st : St} {M : Mm} {a b : Nat} (hd : decode m.2.1 pc = .ok (.idiv, 1)) (ha : a < 2 ^ 31) (hb : b < 2 ^ 31) (h0 : 0 < b) (kk : Go m d Q (pc + 1) ls (.int (nI (a / b)) :: st) M) : Go m d Q pc ls (.int (nI b) :: .int (nI a) :: st) M := g_idiv hd (nI_ne0 h0 hb) (by rw [nI_div ha hb]; exact kk)
theorem g_irem_n {m : Me} {d : Nat} {Q : Po} {pc : Nat} {ls : Lv} {st : St} {M : Mm} {a b : Nat} (hd : decode m.2.1 pc = .ok (.irem, 1)) (ha : a < 2 ^ 31) (hb : b < 2 ^ 31) (h0 : 0 < b) (kk : Go m d Q (pc + 1) ls (.int (nI (a % b)) :: st) M) : Go m d Q pc ls (.int (nI b) :: .int (nI a) :: st) M := g_irem hd (nI_ne0 h0 hb) (by rw [nI_rem ha hb]; exact kk)
/-! THE STATE of a roster, as numbers: what both classes keep -/
abbrev BS : Type := Nat → Nat → Nat → Nat
def hr (S : BS) (p : Nat) : Bool := S 4 p 0 == 1
/-- one number of the state becomes another -/
def up (S : BS) (f i j v : Nat) : BS := fun a b c => if a = f ∧ b = i ∧ c = j then v else S a b c
/-- a holder as an int: 8 is OPEN -/
def hv (a : Nat) : Int32 := if a = 8 then -1 else nI a
def cnt (f : Nat → Bool) : Nat → Nat
  | 0 => 0
  | n + 1 => cnt f n + (if f n = true then 1 else 0)
def sumN (f : Nat → Nat) : Nat → Nat
  | 0 => 0
  | n + 1 => sumN f n + f n
/-- where a new one of that day comes, of k that stand: behind all but those of later days at the end -/
def pos (f : Nat → Nat) (dyf : Nat → Nat) (v : Nat) : Nat → Nat
  | 0 => 0
  | k + 1 => if v < dyf (f k) then pos f dyf v k else k + 1
def insF (f : Nat → Nat) (dyf : Nat → Nat) (n d : Nat) : Nat → Nat := fun j =>
  if j < pos f dyf (dyf d) n then f j else if j = pos f dyf (dyf d) n then d else f (j - 1)
def sdF (dyf : Nat → Nat) : Nat → Nat → Nat
  | 0 => fun _ => 0
  | n + 1 => insF (sdF dyf n) dyf n n
abbrev sd (S : BS) (k : Nat) : Nat := sdF (fun d => S 10 d 0) (S 1 0 0) k
def WF (S : BS) : Prop := S 0 0 0 ≤ 8 ∧ S 1 0 0 ≤ 24 ∧ (∀ p, p < 8 → S 4 p 0 ≤ 1) ∧ (∀ p, S 0 0 0 ≤ p → S 4 p 0 = 0) ∧ (∀ p, p < 8 → S 3 p 0 ≤ 3) ∧ (∀ p k, p < 8 → k < 4 → S 5 p k ≤ 999) ∧ (∀ p, p < 8 → S 6 p 0 ≤ 8) ∧
  (∀ p r, p < 8 → r < 8 → S 7 p r ≤ 2 ∧ S 8 p r ≤ 365 ∧ S 9 p r ≤ 365 ∧ (S 7 p r = 2 → 2 ≤ S 8 p r)) ∧ (∀ d, d < 24 → S 10 d 0 ≤ 365 ∧ S 11 d 0 ≤ 3 ∧ S 12 d 0 ≤ 8) ∧ (∀ p d, p < 8 → d < 24 → S 13 p d ≤ 9) ∧ (∀ p d, S 1 0 0 ≤ d → S 13 p d = 0)
theorem WF.np {S : BS} (h : WF S) : S 0 0 0 ≤ 8 := h.1
theorem WF.nd {S : BS} (h : WF S) : S 1 0 0 ≤ 24 := h.2.1
theorem WF.hN {S : BS} (h : WF S) {p : Nat} (hp : p < 8) : S 4 p 0 ≤ 1 := h.2.2.1 p hp
theorem WF.out {S : BS} (h : WF S) {p : Nat} (hp : S 0 0 0 ≤ p) : S 4 p 0 = 0 := h.2.2.2.1 p hp
theorem WF.rk {S : BS} (h : WF S) {p : Nat} (hp : p < 8) : S 3 p 0 ≤ 3 := h.2.2.2.2.1 p hp
theorem WF.ps {S : BS} (h : WF S) {p k : Nat} (hp : p < 8) (hk : k < 4) : S 5 p k ≤ 999 := h.2.2.2.2.2.1 p k hp hk
theorem WF.nr {S : BS} (h : WF S) {p : Nat} (hp : p < 8) : S 6 p 0 ≤ 8 := h.2.2.2.2.2.2.1 p hp
theorem WF.rl {S : BS} (h : WF S) {p r : Nat} (hp : p < 8) (hr : r < 8) : S 7 p r ≤ 2 ∧ S 8 p r ≤ 365 ∧ S 9 p r ≤ 365 ∧ (S 7 p r = 2 → 2 ≤ S 8 p r) := h.2.2.2.2.2.2.2.1 p r hp hr
theorem WF.dk {S : BS} (h : WF S) {d : Nat} (hd : d < 24) : S 10 d 0 ≤ 365 ∧ S 11 d 0 ≤ 3 ∧ S 12 d 0 ≤ 8 := h.2.2.2.2.2.2.2.2.1 d hd
/-- who holds is here -/
def HO (S : BS) : Prop := ∀ d, d < S 1 0 0 → S 12 d 0 < 8 → S 4 (S 12 d 0) 0 = 1
theorem WF.dl {S : BS} (h : WF S) {p d : Nat} (hp : p < 8) (hd : d < 24) : S 13 p d ≤ 9 := h.2.2.2.2.2.2.2.2.2.1 p d hp hd
theorem WF.dl0 {S : BS} (h : WF S) {p d : Nat} (hd : S 1 0 0 ≤ d) : S 13 p d = 0 := h.2.2.2.2.2.2.2.2.2.2 p d hd
/-- the class's Book holds the state -/
def BK (M : Mm) (S : BS) : Prop := WF S ∧ M 1 0 = nI (S 0 0 0) ∧ M 1 1 = nI (S 1 0 0) ∧ M 1 2 = nI (S 2 0 0) ∧ (∀ d, d < S 1 0 0 → M 2 d = hv (S 12 d 0)) ∧ (∀ p, p < S 0 0 0 → M 3 p = nI (S 3 p 0)) ∧ (∀ p, p < 8 → M 4 p = bI (hr S p)) ∧ (∀ p k, p < S 0 0 0 → k < 4 → M 5 (p * 4 + k) = nI (S 5 p k)) ∧
  (∀ p, p < S 0 0 0 → M 6 p = nI (S 6 p 0)) ∧ (∀ p r, p < S 0 0 0 → r < S 6 p 0 → M 7 (p * 8 + r) = nI (S 7 p r) ∧ M 8 (p * 8 + r) = nI (S 8 p r) ∧ (S 7 p r ≠ 1 → M 9 (p * 8 + r) = nI (S 9 p r))) ∧ (∀ d, d < S 1 0 0 → M 10 d = nI (S 10 d 0) ∧ M 11 d = nI (S 11 d 0) ∧ M 12 d = nI (sd S d)) ∧ (∀ p d, p < S 0 0 0 → d < 24 → M 13 (p * 24 + d) = nI (S 13 p d))
theorem BK.wf {M : Mm} {S : BS} (h : BK M S) : WF S := h.1
theorem BK.np {M : Mm} {S : BS} (h : BK M S) : M 1 0 = nI (S 0 0 0) := h.2.1
theorem BK.nd {M : Mm} {S : BS} (h : BK M S) : M 1 1 = nI (S 1 0 0) := h.2.2.1
theorem BK.yr {M : Mm} {S : BS} (h : BK M S) : M 1 2 = nI (S 2 0 0) := h.2.2.2.1
theorem BK.ho {M : Mm} {S : BS} (h : BK M S) {d : Nat} (hd : d < S 1 0 0) : M 2 d = hv (S 12 d 0) := h.2.2.2.2.1 d hd
theorem BK.rk {M : Mm} {S : BS} (h : BK M S) {p : Nat} (hp : p < S 0 0 0) : M 3 p = nI (S 3 p 0) := h.2.2.2.2.2.1 p hp
theorem BK.here {M : Mm} {S : BS} (h : BK M S) {p : Nat} (hp : p < 8) : M 4 p = bI (hr S p) := h.2.2.2.2.2.2.1 p hp
theorem BK.ps {M : Mm} {S : BS} (h : BK M S) {p k : Nat} (hp : p < S 0 0 0) (hk : k < 4) : M 5 (p * 4 + k) = nI (S 5 p k) := h.2.2.2.2.2.2.2.1 p k hp hk
theorem BK.nr {M : Mm} {S : BS} (h : BK M S) {p : Nat} (hp : p < S 0 0 0) : M 6 p = nI (S 6 p 0) := h.2.2.2.2.2.2.2.2.1 p hp
theorem BK.rs {M : Mm} {S : BS} (h : BK M S) {p r : Nat} (hp : p < S 0 0 0) (hr : r < S 6 p 0) : M 7 (p * 8 + r) = nI (S 7 p r) := (h.2.2.2.2.2.2.2.2.2.1 p r hp hr).1
theorem BK.ra {M : Mm} {S : BS} (h : BK M S) {p r : Nat} (hp : p < S 0 0 0) (hr : r < S 6 p 0) : M 8 (p * 8 + r) = nI (S 8 p r) := (h.2.2.2.2.2.2.2.2.2.1 p r hp hr).2.1
theorem BK.rb {M : Mm} {S : BS} (h : BK M S) {p r : Nat} (hp : p < S 0 0 0) (hr : r < S 6 p 0) (h1 : S 7 p r ≠ 1) : M 9 (p * 8 + r) = nI (S 9 p r) := (h.2.2.2.2.2.2.2.2.2.1 p r hp hr).2.2 h1
theorem BK.dy {M : Mm} {S : BS} (h : BK M S) {d : Nat} (hd : d < S 1 0 0) : M 10 d = nI (S 10 d 0) := (h.2.2.2.2.2.2.2.2.2.2.1 d hd).1
theorem BK.kd {M : Mm} {S : BS} (h : BK M S) {d : Nat} (hd : d < S 1 0 0) : M 11 d = nI (S 11 d 0) := (h.2.2.2.2.2.2.2.2.2.2.1 d hd).2.1
theorem BK.st {M : Mm} {S : BS} (h : BK M S) {d : Nat} (hd : d < S 1 0 0) : M 12 d = nI (sd S d) := (h.2.2.2.2.2.2.2.2.2.2.1 d hd).2.2
theorem BK.dl {M : Mm} {S : BS} (h : BK M S) {p d : Nat} (hp : p < S 0 0 0) (hd : d < 24) : M 13 (p * 24 + d) = nI (S 13 p d) := h.2.2.2.2.2.2.2.2.2.2.2 p d hp hd
/-- memories alike off some places -/
def EqO (L : List Nat) (M M' : Mm) : Prop := ∀ k, k ∉ L → M' k = M k
theorem EqO.rf {L : List Nat} {M : Mm} : EqO L M M := fun _ _ => rfl
theorem EqO.tr {L : List Nat} {M M1 M2 : Mm} (h1 : EqO L M M1) (h2 : EqO L M1 M2) : EqO L M M2 := fun k hk => (h2 k hk).trans (h1 k hk)
theorem EqO.sub {L L' : List Nat} {M M' : Mm} (h : EqO L M M') (hs : ∀ k ∈ L, k ∈ L') : EqO L' M M' := fun k hk => h k (fun e => hk (hs k e))
theorem EqO.set {L : List Nat} {M : Mm} {k j : Nat} {v : Int32} (h : k ∈ L) : EqO L M (mset M k j v) := fun a ha => mset_ne (fun e => ha (e ▸ h))
theorem loop_up {P : Nat → Prop} (n : Nat) (h : ∀ i, i ≤ n → (i < n → P (i + 1)) → P i) : ∀ i, i ≤ n → P i := by
  intro i hi
  obtain ⟨k, hk⟩ : ∃ k, k = n - i := ⟨_, rfl⟩
  induction k generalizing i with
  | zero => exact h i hi (fun q => absurd q (by omega))
  | succ k ih => exact h i hi (fun q => ih (i + 1) q (by omega))
theorem hr_of {S : BS} {p : Nat} : hr S p = true ↔ S 4 p 0 = 1 := by simp [hr]
theorem hv_open (a : Nat) (h : a ≤ 8) : hv a = -1 ↔ a = 8 := by
  unfold hv
  by_cases e : a = 8
  · simp [e]
  · rw [if_neg e]
    refine ⟨fun h2 => ?_, fun h2 => absurd h2 e⟩
    exfalso
    have : (nI a).toInt = -1 := by rw [h2]; rfl
    rw [nI_toInt (by omega)] at this
    omega
theorem hv_eq {a p : Nat} (h : a ≤ 8) (hp : p < 8) : hv a = nI p ↔ a = p := by
  unfold hv
  by_cases e : a = 8
  · rw [if_pos e]
    refine ⟨fun h2 => ?_, fun h2 => by omega⟩
    exfalso
    have : (nI p).toInt = -1 := by rw [← h2]; rfl
    rw [nI_toInt (by omega)] at this
    omega
  · rw [if_neg e]; exact nI_eq (by omega) (by omega)
theorem hv_lt {a : Nat} (h : a ≤ 8) : hv a < 0 ↔ a = 8 := by
  unfold hv
  by_cases e : a = 8
  · simp only [e, if_true, iff_true]; decide
  · rw [if_neg e]; exact ⟨fun h2 => absurd h2 (nI_pos (by omega)), fun h2 => absurd h2 e⟩
theorem hv_p {p : Nat} (h : p < 8) : hv p = nI p := by unfold hv; rw [if_neg (by omega)]
theorem hv_8 : hv 8 = -1 := rfl
/-! BOOK, what is asked of it -/
theorem inR_hv {q n : Nat} (h : q ≤ 8) (hn : n ≤ 8) : inR (hv q) n = decide (q < n) := by
  by_cases e : q = 8
  · subst e
    rw [hv_8, inR_m1]
    simp only [false_eq_decide_iff]
    omega
  · unfold hv
    rw [if_neg e, inR_nI (by omega)]
/-- a range test by three comparisons -/
theorem inR_f1 {x : Int32} {n : Nat} (h : x < 0) : inR x n = false := by
  unfold inR
  rw [lt0_toInt] at h
  simp only [decide_eq_false_iff_not]
  omega
theorem inR_f2 {x : Int32} {n k : Nat} (hk : k < 2 ^ 31) (hn : n ≤ k) (h : nI k ≤ x) : inR x n = false := by
  unfold inR
  rw [lenI_toInt hk] at h
  simp only [decide_eq_false_iff_not]
  omega
theorem inR_t1 {x : Int32} {n : Nat} (hn : n < 2 ^ 31) (h : ¬ x < 0) (h2 : ¬ nI n ≤ x) : inR x n = true := by
  unfold inR
  rw [lt0_toInt] at h
  rw [lenI_toInt hn] at h2
  simp only [decide_eq_true_eq]
  omega
theorem SB_isOne {d : Nat} {M : Mm} {S : BS} {Q : Po} (hB : BK M S) (x : Int32) (h : Q M (some (.int (bI (inR x (S 0 0 0)))))) : Call (d + 1) mB_isOne [.ref 1, .int x] M Q := by
  have hw := hB.wf.np
  refine Call_of (m := mB_isOne) [some (.ref 1), some (.int x)] rfl (fun G => Nat.le_of_ble_eq_true rfl) (fun G => rfl) ?_
  refine g_iload_n dX0_isOne_0 rfl ?_
  refine g_if_lt 22 dX0_isOne_1 (by decide) (fun c1 => ?_) (fun c1 => ?_)
  · refine g_iconst (nI 0) dX0_isOne_22 ki_0 ?_
    refine g_ireturn dX0_isOne_23 rfl (by first | rfl | exact nar_bI _) ?_
    exact qb_f h (inR_f1 c1)
  · refine g_iload_n dX0_isOne_4 rfl ?_
    refine g_aload_n dX0_isOne_5 rfl ?_
    refine g_geti (j := 0) dX0_isOne_6 gc0 rfl (by decide) rfl (by decide) fl_B_49 ?_
    try simp (disch := omega) only [hB.np]
    refine g_icmp_ge 22 dX0_isOne_9 (by decide) (fun c9 => ?_) (fun c9 => ?_)
    · refine g_iconst (nI 0) dX0_isOne_22 ki_0 ?_
      refine g_ireturn dX0_isOne_23 rfl (by first | rfl | exact nar_bI _) ?_
      exact qb_f h (inR_f2 (by omega) (Nat.le_refl _) c9)
    · refine g_iload_n dX0_isOne_12 rfl ?_
      refine g_bipush (nI 8) dX0_isOne_13 kb_8 ?_
      refine g_icmp_ge 22 dX0_isOne_15 (by decide) (fun c15 => ?_) (fun c15 => ?_)
      · refine g_iconst (nI 0) dX0_isOne_22 ki_0 ?_
        refine g_ireturn dX0_isOne_23 rfl (by first | rfl | exact nar_bI _) ?_
        exact qb_f h (inR_f2 (k := 8) (by omega) hw c15)
      · refine g_iconst (nI 1) dX0_isOne_18 ki_1 ?_
        refine g_goto 23 dX0_isOne_19 (by decide) ?_
        refine g_ireturn dX0_isOne_23 rfl (by first | rfl | exact nar_bI _) ?_
        exact qb_t h (inR_t1 (by omega) c1 c9)
theorem SB_isOneT {d : Nat} {M : Mm} {S : BS} {Q : Po} (hB : BK M S) {p : Nat} (hp : p < S 0 0 0) (h : Q M (some (.int (bI true)))) : Call (d + 1) mB_isOne [.ref 1, .int (nI p)] M Q := by
  have hw := hB.wf.np
  refine SB_isOne hB _ ?_
  rw [inR_nI (by omega), decide_eq_true hp]
  exact h
theorem SB_isDuty {d : Nat} {M : Mm} {S : BS} {Q : Po} (hB : BK M S) (x : Int32) (h : Q M (some (.int (bI (inR x (S 1 0 0)))))) : Call (d + 1) mB_isDuty [.ref 1, .int x] M Q := by
  have hw := hB.wf.nd
  refine Call_of (m := mB_isDuty) [some (.ref 1), some (.int x)] rfl (fun G => Nat.le_of_ble_eq_true rfl) (fun G => rfl) ?_
  refine g_iload_n dX0_isDuty_0 rfl ?_
  refine g_if_lt 22 dX0_isDuty_1 (by decide) (fun c1 => ?_) (fun c1 => ?_)
  · refine g_iconst (nI 0) dX0_isDuty_22 ki_0 ?_
    refine g_ireturn dX0_isDuty_23 rfl (by first | rfl | exact nar_bI _) ?_
    exact qb_f h (inR_f1 c1)
  · refine g_iload_n dX0_isDuty_4 rfl ?_
    refine g_aload_n dX0_isDuty_5 rfl ?_
    refine g_geti (j := 1) dX0_isDuty_6 gc0 rfl (by decide) rfl (by decide) fl_B_53 ?_
    try simp (disch := omega) only [hB.nd]
    refine g_icmp_ge 22 dX0_isDuty_9 (by decide) (fun c9 => ?_) (fun c9 => ?_)
    · refine g_iconst (nI 0) dX0_isDuty_22 ki_0 ?_
      refine g_ireturn dX0_isDuty_23 rfl (by first | rfl | exact nar_bI _) ?_
      exact qb_f h (inR_f2 (by omega) (Nat.le_refl _) c9)
    · refine g_iload_n dX0_isDuty_12 rfl ?_
      refine g_bipush (nI 24) dX0_isDuty_13 kb_24 ?_
      refine g_icmp_ge 22 dX0_isDuty_15 (by decide) (fun c15 => ?_) (fun c15 => ?_)
      · refine g_iconst (nI 0) dX0_isDuty_22 ki_0 ?_
        refine g_ireturn dX0_isDuty_23 rfl (by first | rfl | exact nar_bI _) ?_
        exact qb_f h (inR_f2 (k := 24) (by omega) hw c15)
      · refine g_iconst (nI 1) dX0_isDuty_18 ki_1 ?_
        refine g_goto 23 dX0_isDuty_19 (by decide) ?_
        refine g_ireturn dX0_isDuty_23 rfl (by first | rfl | exact nar_bI _) ?_
        exact qb_t h (inR_t1 (by omega) c1 c9)
theorem SB_isDutyT {d : Nat} {M : Mm} {S : BS} {Q : Po} (hB : BK M S) {p : Nat} (hp : p < S 1 0 0) (h : Q M (some (.int (bI true)))) : Call (d + 1) mB_isDuty [.ref 1, .int (nI p)] M Q := by
  have hw := hB.wf.nd
  refine SB_isDuty hB _ ?_
  rw [inR_nI (by omega), decide_eq_true hp]
  exact h
theorem SF_isKind {d : Nat} {M : Mm} {Q : Po} (x : Int32) (h : Q M (some (.int (bI (inR x 4))))) : Call (d + 1) mF_isKind [.int x] M Q := by
  refine Call_of (m := mF_isKind) [some (.int x)] rfl (fun G => Nat.le_of_ble_eq_true rfl) (fun G => rfl) ?_
  refine g_iload_n dX9_isKind_0 rfl ?_
  refine g_if_lt 13 dX9_isKind_1 (by decide) (fun c1 => ?_) (fun c1 => ?_)
  · refine g_iconst (nI 0) dX9_isKind_13 ki_0 ?_
    refine g_ireturn dX9_isKind_14 rfl (by first | rfl | exact nar_bI _) ?_
    exact qb_f h (inR_f1 c1)
  · refine g_iload_n dX9_isKind_4 rfl ?_
    refine g_iconst (nI 4) dX9_isKind_5 ki_4 ?_
    refine g_icmp_ge 13 dX9_isKind_6 (by decide) (fun c6 => ?_) (fun c6 => ?_)
    · refine g_iconst (nI 0) dX9_isKind_13 ki_0 ?_
      refine g_ireturn dX9_isKind_14 rfl (by first | rfl | exact nar_bI _) ?_
      exact qb_f h (inR_f2 (by omega) (Nat.le_refl _) c6)
    · refine g_iconst (nI 1) dX9_isKind_9 ki_1 ?_
      refine g_goto 14 dX9_isKind_10 (by decide) ?_
      refine g_ireturn dX9_isKind_14 rfl (by first | rfl | exact nar_bI _) ?_
      exact qb_t h (inR_t1 (by omega) c1 c6)
theorem SF_isKindT {d : Nat} {M : Mm} {Q : Po} {k : Nat} (hk : k < 4) (h : Q M (some (.int (bI true)))) : Call (d + 1) mF_isKind [.int (nI k)] M Q := by
  refine SF_isKind _ ?_
  rw [inR_nI (by omega), decide_eq_true hk]
  exact h
theorem hr_big {S : BS} (hW : WF S) {p : Nat} (hp : 8 ≤ p) : hr S p = false := by
  have h1 := hW.np
  have h2 := hW.out (p := p) (by omega)
  unfold hr
  rw [h2]
  rfl
theorem SB_isHere {d : Nat} {M : Mm} {S : BS} {Q : Po} (hB : BK M S) {p : Nat} (hp : p < 2 ^ 31) (h : Q M (some (.int (bI (hr S p))))) : Call (d + 1) mB_isHere [.ref 1, .int (nI p)] M Q := by
  refine Call_of (m := mB_isHere) [some (.ref 1), some (.int (nI p))] rfl (fun G => Nat.le_of_ble_eq_true rfl) (fun G => rfl) ?_
  refine g_iload_n dX0_isHere_0 rfl ?_
  refine g_if_lt_n 23 dX0_isHere_1 (by decide) (by omega) ?_
  refine g_iload_n dX0_isHere_4 rfl ?_
  refine g_bipush (nI 8) dX0_isHere_5 kb_8 ?_
  refine g_icmp_ge_n 23 dX0_isHere_7 (by decide) (by omega) (by omega) (fun c7 => ?_) (fun c7 => ?_)
  · refine g_iconst (nI 0) dX0_isHere_23 ki_0 ?_
    refine g_ireturn dX0_isHere_24 rfl (by first | rfl | exact nar_bI _) ?_
    exact qb_f h (hr_big hB.wf c7)
  · refine g_aload_n dX0_isHere_10 rfl ?_
    refine g_getr (j := 5) dX0_isHere_11 gc0 rfl (by decide) rfl (by decide) fl_B_18 ?_
    refine g_iload_n dX0_isHere_14 rfl ?_
    refine g_bald_n dX0_isHere_15 rfl (by decide) (by decide) (by omega) ?_
    try simp (disch := omega) only [hB.here]
    refine g_if_eq_b 23 dX0_isHere_16 (by decide) (fun c16 => ?_) (fun c16 => ?_)
    · refine g_iconst (nI 0) dX0_isHere_23 ki_0 ?_
      refine g_ireturn dX0_isHere_24 rfl (by first | rfl | exact nar_bI _) ?_
      exact qb_f h c16
    · refine g_iconst (nI 1) dX0_isHere_19 ki_1 ?_
      refine g_goto 24 dX0_isHere_20 (by decide) ?_
      refine g_ireturn dX0_isHere_24 rfl (by first | rfl | exact nar_bI _) ?_
      exact qb_t h c16
theorem SB_isHereM {d : Nat} {M : Mm} {Q : Po} (h : Q M (some (.int (bI false)))) : Call (d + 1) mB_isHere [.ref 1, .int (-1)] M Q := by
  refine Call_of (m := mB_isHere) [some (.ref 1), some (.int (-1))] rfl (fun G => Nat.le_of_ble_eq_true rfl) (fun G => rfl) ?_
  refine g_iload_n dX0_isHere_0 rfl ?_
  refine g_if_lt 23 dX0_isHere_1 (by decide) (fun c1 => ?_) (fun c1 => ?_)
  · refine g_iconst (nI 0) dX0_isHere_23 ki_0 ?_
    refine g_ireturn dX0_isHere_24 rfl (by first | rfl | exact nar_bI _) ?_
    exact h
  · exact absurd (by decide) c1
theorem SB_countHere {d : Nat} {M : Mm} {S : BS} {Q : Po} (hB : BK M S) (h : Q M (some (.int (nI (cnt (hr S) (S 0 0 0)))))) : Call (d + 2) mB_countHere [.ref 1] M Q := by
  have hw := hB.wf.np
  refine Call_of (m := mB_countHere) [some (.ref 1), none, none] rfl (fun G => Nat.le_of_ble_eq_true rfl) (fun G => rfl) ?_
  refine g_iconst (nI 0) dX0_countHere_0 ki_0 ?_
  refine g_ist3_1 dX0_countHere_1 (by decide) rfl ?_
  refine g_iconst (nI 0) dX0_countHere_2 ki_0 ?_
  refine g_ist3_2 dX0_countHere_3 (by decide) rfl ?_
  refine loop_up (P := fun i => Go mB_countHere (d + 2) Q 4 [some (.ref 1), some (.int (nI (cnt (hr S) i))), some (.int (nI i))] [] M) (S 0 0 0) ?_ 0 (Nat.zero_le _)
  intro i hi ih
  refine g_iload_n dX0_countHere_4 rfl ?_
  refine g_aload_n dX0_countHere_5 rfl ?_
  refine g_geti (j := 0) dX0_countHere_6 gc0 rfl (by decide) rfl (by decide) fl_B_49 ?_
  try simp (disch := omega) only [hB.np]
  refine g_icmp_ge_n 29 dX0_countHere_9 (by decide) (by omega) (by omega) (fun c9 => ?_) (fun c9 => ?_)
  · refine g_iload_n dX0_countHere_29 rfl ?_
    refine g_ireturn dX0_countHere_30 rfl (by first | rfl | exact nar_bI _) ?_
    rw [show i = S 0 0 0 by omega]; exact h
  · refine g_aload_n dX0_countHere_12 rfl ?_
    refine g_iload_n dX0_countHere_13 rfl ?_
    refine g_call1 dX0_countHere_14 clB_isHere ml_B_56 gc0 rfl rfl (by decide) (Nat.le_of_ble_eq_true rfl) ?_
    refine SB_isHere hB (by omega) ?_
    refine g_if_eq_b 23 dX0_countHere_17 (by decide) (fun c17 => ?_) (fun c17 => ?_)
    · first | refine g_incn3_2 dX0_countHere_23 ki_1 (by decide) rfl ?_ | refine g_incg3_2 (nI 1) dX0_countHere_23 ki_1 (by decide) rfl ?_
      refine g_goto 4 dX0_countHere_26 (by decide) ?_
      have := ih (by omega)
      rw [cnt, c17] at this
      exact this
    · first | refine g_incn3_1 dX0_countHere_20 ki_1 (by decide) rfl ?_ | refine g_incg3_1 (nI 1) dX0_countHere_20 ki_1 (by decide) rfl ?_
      first | refine g_incn3_2 dX0_countHere_23 ki_1 (by decide) rfl ?_ | refine g_incg3_2 (nI 1) dX0_countHere_23 ki_1 (by decide) rfl ?_
      refine g_goto 4 dX0_countHere_26 (by decide) ?_
      have := ih (by omega)
      rw [cnt, c17] at this
      exact this
theorem SB_pastOf {d : Nat} {M : Mm} {S : BS} {Q : Po} (hB : BK M S) {p k : Nat} (hp : p < S 0 0 0) (hk : k < 4) (h : Q M (some (.int (nI (S 5 p k))))) : Call (d + 2) mB_pastOf [.ref 1, .int (nI p), .int (nI k)] M Q := by
  have hw := hB.wf.np
  refine Call_of (m := mB_pastOf) [some (.ref 1), some (.int (nI p)), some (.int (nI k))] rfl (fun G => Nat.le_of_ble_eq_true rfl) (fun G => rfl) ?_
  refine g_aload_n dX0_pastOf_0 rfl ?_
  refine g_iload_n dX0_pastOf_1 rfl ?_
  refine g_call1 dX0_pastOf_2 clB_isOne ml_B_64 gc0 rfl rfl (by decide) (Nat.le_of_ble_eq_true rfl) ?_
  refine SB_isOneT hB hp ?_
  refine g_if_eq_tt 28 dX0_pastOf_5 (by decide) ?_
  refine g_iload_n dX0_pastOf_8 rfl ?_
  refine g_calln1 (host := "FairTurns") dX0_pastOf_9 clF_isKind (by decide) (Nat.le_of_ble_eq_true rfl) ?_
  refine SF_isKindT hk ?_
  refine g_if_eq_tt 28 dX0_pastOf_12 (by decide) ?_
  refine g_aload_n dX0_pastOf_15 rfl ?_
  refine g_getr (j := 6) dX0_pastOf_16 gc0 rfl (by decide) rfl (by decide) fl_B_22 ?_
  refine g_iload_n dX0_pastOf_19 rfl ?_
  refine g_iconst (nI 4) dX0_pastOf_20 ki_4 ?_
  first | refine g_imul_n dX0_pastOf_21 ?_ | refine g_imul dX0_pastOf_21 ?_
  refine g_iload_n dX0_pastOf_22 rfl ?_
  first | refine g_iadd_n dX0_pastOf_23 ?_ | refine g_iadd dX0_pastOf_23 ?_
  refine g_iald_n dX0_pastOf_24 (by first | rfl | assumption) (by first | decide | assumption) (by omega) (by omega) ?_
  try simp (disch := omega) only [hB.ps]
  refine g_goto 29 dX0_pastOf_25 (by decide) ?_
  refine g_ireturn dX0_pastOf_29 rfl (by first | rfl | exact nar_bI _) ?_
  exact h
theorem SB_rankOf {d : Nat} {M : Mm} {S : BS} {Q : Po} (hB : BK M S) {p : Nat} (hp : p < S 0 0 0) (h : Q M (some (.int (nI (S 3 p 0))))) : Call (d + 2) mB_rankOf [.ref 1, .int (nI p)] M Q := by
  have hw := hB.wf.np
  refine Call_of (m := mB_rankOf) [some (.ref 1), some (.int (nI p))] rfl (fun G => Nat.le_of_ble_eq_true rfl) (fun G => rfl) ?_
  refine g_aload_n dX0_rankOf_0 rfl ?_
  refine g_iload_n dX0_rankOf_1 rfl ?_
  refine g_call1 dX0_rankOf_2 clB_isOne ml_B_64 gc0 rfl rfl (by decide) (Nat.le_of_ble_eq_true rfl) ?_
  refine SB_isOneT hB hp ?_
  refine g_if_eq_tt 17 dX0_rankOf_5 (by decide) ?_
  refine g_aload_n dX0_rankOf_8 rfl ?_
  refine g_getr (j := 4) dX0_rankOf_9 gc0 rfl (by decide) rfl (by decide) fl_B_15 ?_
  refine g_iload_n dX0_rankOf_12 rfl ?_
  refine g_iald_n dX0_rankOf_13 (by first | rfl | assumption) (by first | decide | assumption) (by omega) (by omega) ?_
  try simp (disch := omega) only [hB.rk]
  refine g_goto 18 dX0_rankOf_14 (by decide) ?_
  refine g_ireturn dX0_rankOf_18 rfl (by first | rfl | exact nar_bI _) ?_
  exact h
theorem SB_countRulesOf {d : Nat} {M : Mm} {S : BS} {Q : Po} (hB : BK M S) {p : Nat} (hp : p < S 0 0 0) (h : Q M (some (.int (nI (S 6 p 0))))) : Call (d + 2) mB_countRulesOf [.ref 1, .int (nI p)] M Q := by
  have hw := hB.wf.np
  refine Call_of (m := mB_countRulesOf) [some (.ref 1), some (.int (nI p))] rfl (fun G => Nat.le_of_ble_eq_true rfl) (fun G => rfl) ?_
  refine g_aload_n dX0_countRulesOf_0 rfl ?_
  refine g_iload_n dX0_countRulesOf_1 rfl ?_
  refine g_call1 dX0_countRulesOf_2 clB_isOne ml_B_64 gc0 rfl rfl (by decide) (Nat.le_of_ble_eq_true rfl) ?_
  refine SB_isOneT hB hp ?_
  refine g_if_eq_tt 17 dX0_countRulesOf_5 (by decide) ?_
  refine g_aload_n dX0_countRulesOf_8 rfl ?_
  refine g_getr (j := 7) dX0_countRulesOf_9 gc0 rfl (by decide) rfl (by decide) fl_B_25 ?_
  refine g_iload_n dX0_countRulesOf_12 rfl ?_
  refine g_iald_n dX0_countRulesOf_13 (by first | rfl | assumption) (by first | decide | assumption) (by omega) (by omega) ?_
  try simp (disch := omega) only [hB.nr]
  refine g_goto 18 dX0_countRulesOf_14 (by decide) ?_
  refine g_ireturn dX0_countRulesOf_18 rfl (by first | rfl | exact nar_bI _) ?_
  exact h
def headN (S : BS) (p k : Nat) : Nat := if S 3 p 0 = 3 then 2 else if S 3 p 0 = 2 ∧ k < 2 then 1 else 0
theorem SB_headOf {d : Nat} {M : Mm} {S : BS} {Q : Po} (hB : BK M S) {p k : Nat} (hp : p < S 0 0 0) (hk : k < 4) (h : Q M (some (.int (nI (headN S p k))))) : Call (d + 2) mB_headOf [.ref 1, .int (nI p), .int (nI k)] M Q := by
  have hw := hB.wf.np
  have hr := hB.wf.rk (p := p) (by omega)
  unfold headN at h
  refine Call_of (m := mB_headOf) [some (.ref 1), some (.int (nI p)), some (.int (nI k))] rfl (fun G => Nat.le_of_ble_eq_true rfl) (fun G => rfl) ?_
  refine g_aload_n dX0_headOf_0 rfl ?_
  refine g_iload_n dX0_headOf_1 rfl ?_
  refine g_call1 dX0_headOf_2 clB_isOne ml_B_64 gc0 rfl rfl (by decide) (Nat.le_of_ble_eq_true rfl) ?_
  refine SB_isOneT hB hp ?_
  refine g_if_ne_tt 10 dX0_headOf_5 (by decide) ?_
  refine g_aload_n dX0_headOf_10 rfl ?_
  refine g_getr (j := 4) dX0_headOf_11 gc0 rfl (by decide) rfl (by decide) fl_B_15 ?_
  refine g_iload_n dX0_headOf_14 rfl ?_
  refine g_iald_n dX0_headOf_15 (by first | rfl | assumption) (by first | decide | assumption) (by omega) (by omega) ?_
  try simp (disch := omega) only [hB.rk]
  refine g_iconst (nI 3) dX0_headOf_16 ki_3 ?_
  refine g_icmp_ne_n 22 dX0_headOf_17 (by decide) (by omega) (by omega) (fun c17 => ?_) (fun c17 => ?_)
  · refine g_aload_n dX0_headOf_22 rfl ?_
    refine g_getr (j := 4) dX0_headOf_23 gc0 rfl (by decide) rfl (by decide) fl_B_15 ?_
    refine g_iload_n dX0_headOf_26 rfl ?_
    refine g_iald_n dX0_headOf_27 (by first | rfl | assumption) (by first | decide | assumption) (by omega) (by omega) ?_
    try simp (disch := omega) only [hB.rk]
    refine g_iconst (nI 2) dX0_headOf_28 ki_2 ?_
    refine g_icmp_ne_n 45 dX0_headOf_29 (by decide) (by omega) (by omega) (fun c29 => ?_) (fun c29 => ?_)
    · refine g_iconst (nI 0) dX0_headOf_45 ki_0 ?_
      refine g_ireturn dX0_headOf_46 rfl (by first | rfl | exact nar_bI _) ?_
      rw [if_neg c17, if_neg (by omega)] at h; exact h
    · refine g_iload_n dX0_headOf_32 rfl ?_
      refine g_if_eq_n 41 dX0_headOf_33 (by decide) (by omega) (fun c33 => ?_) (fun c33 => ?_)
      · refine g_iconst (nI 1) dX0_headOf_41 ki_1 ?_
        refine g_goto 46 dX0_headOf_42 (by decide) ?_
        refine g_ireturn dX0_headOf_46 rfl (by first | rfl | exact nar_bI _) ?_
        rw [if_neg c17, if_pos (by omega)] at h; exact h
      · refine g_iload_n dX0_headOf_36 rfl ?_
        refine g_iconst (nI 1) dX0_headOf_37 ki_1 ?_
        refine g_icmp_ne_n 45 dX0_headOf_38 (by decide) (by omega) (by omega) (fun c38 => ?_) (fun c38 => ?_)
        · refine g_iconst (nI 0) dX0_headOf_45 ki_0 ?_
          refine g_ireturn dX0_headOf_46 rfl (by first | rfl | exact nar_bI _) ?_
          rw [if_neg c17, if_neg (by omega)] at h; exact h
        · refine g_iconst (nI 1) dX0_headOf_41 ki_1 ?_
          refine g_goto 46 dX0_headOf_42 (by decide) ?_
          refine g_ireturn dX0_headOf_46 rfl (by first | rfl | exact nar_bI _) ?_
          rw [if_neg c17, if_pos (by omega)] at h; exact h
  · refine g_iconst (nI 2) dX0_headOf_20 ki_2 ?_
    refine g_ireturn dX0_headOf_21 rfl (by first | rfl | exact nar_bI _) ?_
    rw [if_pos c17] at h; exact h
/-! BOOK, counting and asking -/
theorem hv_inj {a b : Nat} (h : a ≤ 8) (h2 : b ≤ 8) : hv a = hv b ↔ a = b := by
  by_cases e : b = 8
  · rw [e, hv_8]; exact hv_open a h
  · rw [hv_p (p := b) (by omega)]; exact hv_eq h (by omega)
theorem cnt_t {f : Nat → Bool} {n : Nat} (h : f n = true) : cnt f (n + 1) = cnt f n + 1 := by rw [cnt, if_pos h]
theorem cnt_f {f : Nat → Bool} {n : Nat} (h : f n = false) : cnt f (n + 1) = cnt f n := by rw [cnt, h]; rfl
theorem cnt_le (f : Nat → Bool) (n : Nat) : cnt f n ≤ n := by
  induction n with
  | zero => exact Nat.le_refl 0
  | succ n ih =>
    rw [cnt]
    split <;> omega
def heldF (S : BS) (f : Nat → Nat) (q k : Nat) : Nat := cnt (fun d => S 11 d 0 == k && f d == q) (S 1 0 0)
def heldN (S : BS) (q k : Nat) : Nat := heldF S (fun d => S 12 d 0) q k
def loadF (S : BS) (f : Nat → Nat) (p k : Nat) : Nat := S 5 p k + headN S p k + heldF S f p k
def loadN (S : BS) (p k : Nat) : Nat := loadF S (fun d => S 12 d 0) p k
theorem heldF_le (S : BS) (f : Nat → Nat) (q k : Nat) : heldF S f q k ≤ S 1 0 0 := cnt_le _ _
theorem headN_le (S : BS) (p k : Nat) : headN S p k ≤ 2 := by
  unfold headN
  split
  · omega
  · split <;> omega
theorem SB_countHeld_2 {d : Nat} {M : Mm} {S : BS} {Q : Po} (hB : BK M S) (f : Nat → Nat) (hf : ∀ i, i < S 1 0 0 → M 2 i = hv (f i)) (hf8 : ∀ i, i < S 1 0 0 → f i ≤ 8) {q k : Nat} (hq : q ≤ 8) (hk : k < 4) (h : Q M (some (.int (nI (heldF S f q k))))) : Call (d + 1) mB_countHeld [.ref 1, .ref 2, .int (hv q), .int (nI k)] M Q := by
  have hw := hB.wf.nd
  refine Call_of (m := mB_countHeld) [some (.ref 1), some (.ref 2), some (.int (hv q)), some (.int (nI k)), none, none] rfl (fun G => Nat.le_of_ble_eq_true rfl) (fun G => rfl) ?_
  refine g_iconst (nI 0) dX0_countHeld_0 ki_0 ?_
  refine g_ist6_4 dX0_countHeld_1 (by decide) rfl ?_
  refine g_iconst (nI 0) dX0_countHeld_3 ki_0 ?_
  refine g_ist6_5 dX0_countHeld_4 (by decide) rfl ?_
  refine loop_up (P := fun i => Go mB_countHeld (d + 1) Q 6 [some (.ref 1), some (.ref 2), some (.int (hv q)), some (.int (nI k)), some (.int (nI (cnt (fun d => S 11 d 0 == k && f d == q) i))), some (.int (nI i))] [] M) (S 1 0 0) ?_ 0 (Nat.zero_le _)
  intro i hi ih
  refine g_iload dX0_countHeld_6 rfl ?_
  refine g_aload_n dX0_countHeld_8 rfl ?_
  refine g_geti (j := 1) dX0_countHeld_9 gc0 rfl (by decide) rfl (by decide) fl_B_53 ?_
  try simp (disch := omega) only [hB.nd, hB.kd, hf]
  refine g_icmp_ge_n 60 dX0_countHeld_12 (by decide) (by omega) (by omega) (fun c12 => ?_) (fun c12 => ?_)
  · refine g_iload dX0_countHeld_60 rfl ?_
    refine g_ireturn dX0_countHeld_62 rfl (by first | rfl | exact nar_bI _) ?_
    rw [show i = S 1 0 0 by omega]; exact h
  · have hdk := hB.wf.dk (d := i) (by omega)
    have hf8i := hf8 i (by omega)
    have ih2 := ih (by omega)
    refine g_iload dX0_countHeld_15 rfl ?_
    refine g_aload_n dX0_countHeld_17 rfl ?_
    refine g_getr (j := 12) dX0_countHeld_18 gc0 rfl (by decide) rfl (by decide) fl_B_40 ?_
    refine g_alen dX0_countHeld_21 (by first | rfl | assumption) (by first | decide | assumption) ?_
    refine g_icmp_ge_n 60 dX0_countHeld_22 (by decide) (by omega) (by omega) (fun c22 => ?_) (fun c22 => ?_)
    · exact absurd c22 (by omega)
    · refine g_iload dX0_countHeld_25 rfl ?_
      refine g_aload_n dX0_countHeld_27 rfl ?_
      refine g_alen dX0_countHeld_28 (by first | rfl | assumption) (by first | decide | assumption) ?_
      refine g_icmp_ge_n 60 dX0_countHeld_29 (by decide) (by omega) (by omega) (fun c29 => ?_) (fun c29 => ?_)
      · exact absurd c29 (by omega)
      · refine g_aload_n dX0_countHeld_32 rfl ?_
        refine g_getr (j := 12) dX0_countHeld_33 gc0 rfl (by decide) rfl (by decide) fl_B_40 ?_
        refine g_iload dX0_countHeld_36 rfl ?_
        refine g_iald_n dX0_countHeld_38 (by first | rfl | assumption) (by first | decide | assumption) (by omega) (by omega) ?_
        try simp (disch := omega) only [hB.nd, hB.kd, hf]
        refine g_iload_n dX0_countHeld_39 rfl ?_
        refine g_icmp_ne_n 54 dX0_countHeld_40 (by decide) (by omega) (by omega) (fun c40 => ?_) (fun c40 => ?_)
        · first | refine g_incn6_5 dX0_countHeld_54 ki_1 (by decide) rfl ?_ | refine g_incg6_5 (nI 1) dX0_countHeld_54 ki_1 (by decide) rfl ?_
          refine g_goto 6 dX0_countHeld_57 (by decide) ?_
          rw [cnt_f (by simp [c40])] at ih2; exact ih2
        · refine g_aload_n dX0_countHeld_43 rfl ?_
          refine g_iload dX0_countHeld_44 rfl ?_
          refine g_iald_n dX0_countHeld_46 (by first | rfl | assumption) (by first | decide | assumption) (by omega) (by omega) ?_
          try simp (disch := omega) only [hB.nd, hB.kd, hf]
          refine g_iload_n dX0_countHeld_47 rfl ?_
          refine g_icmp_ne 54 dX0_countHeld_48 (by decide) (fun c48 => ?_) (fun c48 => ?_)
          · first | refine g_incn6_5 dX0_countHeld_54 ki_1 (by decide) rfl ?_ | refine g_incg6_5 (nI 1) dX0_countHeld_54 ki_1 (by decide) rfl ?_
            refine g_goto 6 dX0_countHeld_57 (by decide) ?_
            rw [cnt_f (by rw [hv_inj hf8i hq] at c48; simp [c48])] at ih2; exact ih2
          · first | refine g_incn6_4 dX0_countHeld_51 ki_1 (by decide) rfl ?_ | refine g_incg6_4 (nI 1) dX0_countHeld_51 ki_1 (by decide) rfl ?_
            first | refine g_incn6_5 dX0_countHeld_54 ki_1 (by decide) rfl ?_ | refine g_incg6_5 (nI 1) dX0_countHeld_54 ki_1 (by decide) rfl ?_
            refine g_goto 6 dX0_countHeld_57 (by decide) ?_
            rw [cnt_t (by rw [hv_inj hf8i hq] at c48; simp [c48, c40])] at ih2; exact ih2
theorem SB_loadBy_2 {d : Nat} {M : Mm} {S : BS} {Q : Po} (hB : BK M S) (f : Nat → Nat) (hf : ∀ i, i < S 1 0 0 → M 2 i = hv (f i)) (hf8 : ∀ i, i < S 1 0 0 → f i ≤ 8) {p k : Nat} (hp : p < S 0 0 0) (hk : k < 4) (h : Q M (some (.int (nI (loadF S f p k))))) : Call (d + 3) mB_loadBy [.ref 1, .ref 2, .int (nI p), .int (nI k)] M Q := by
  have hw := hB.wf.np
  refine Call_of (m := mB_loadBy) [some (.ref 1), some (.ref 2), some (.int (nI p)), some (.int (nI k))] rfl (fun G => Nat.le_of_ble_eq_true rfl) (fun G => rfl) ?_
  refine g_aload_n dX0_loadBy_0 rfl ?_
  refine g_iload_n dX0_loadBy_1 rfl ?_
  refine g_iload_n dX0_loadBy_2 rfl ?_
  refine g_call2 dX0_loadBy_3 clB_pastOf ml_B_82 gc0 rfl rfl (by decide) (Nat.le_of_ble_eq_true rfl) ?_
  refine SB_pastOf hB hp hk ?_
  refine g_aload_n dX0_loadBy_6 rfl ?_
  refine g_iload_n dX0_loadBy_7 rfl ?_
  refine g_iload_n dX0_loadBy_8 rfl ?_
  refine g_call2 dX0_loadBy_9 clB_headOf ml_B_93 gc0 rfl rfl (by decide) (Nat.le_of_ble_eq_true rfl) ?_
  refine SB_headOf hB hp hk ?_
  first | refine g_iadd_n dX0_loadBy_12 ?_ | refine g_iadd dX0_loadBy_12 ?_
  refine g_aload_n dX0_loadBy_13 rfl ?_
  refine g_aload_n dX0_loadBy_14 rfl ?_
  refine g_iload_n dX0_loadBy_15 rfl ?_
  refine g_iload_n dX0_loadBy_16 rfl ?_
  refine g_call3 dX0_loadBy_17 clB_countHeld ml_B_96 gc0 rfl rfl (by decide) (Nat.le_of_ble_eq_true rfl) ?_
  rw [← hv_p (p := p) (by omega)]
  refine SB_countHeld_2 hB f hf hf8 (by omega) hk ?_
  first | refine g_iadd_n dX0_loadBy_20 ?_ | refine g_iadd dX0_loadBy_20 ?_
  refine g_ireturn dX0_loadBy_21 rfl (by first | rfl | exact nar_bI _) ?_
  exact h
theorem SB_countHeld_49 {d : Nat} {M : Mm} {S : BS} {Q : Po} (hB : BK M S) (f : Nat → Nat) (hf : ∀ i, i < S 1 0 0 → M 49 i = hv (f i)) (hf8 : ∀ i, i < S 1 0 0 → f i ≤ 8) {q k : Nat} (hq : q ≤ 8) (hk : k < 4) (h : Q M (some (.int (nI (heldF S f q k))))) : Call (d + 1) mB_countHeld [.ref 1, .ref 49, .int (hv q), .int (nI k)] M Q := by
  have hw := hB.wf.nd
  refine Call_of (m := mB_countHeld) [some (.ref 1), some (.ref 49), some (.int (hv q)), some (.int (nI k)), none, none] rfl (fun G => Nat.le_of_ble_eq_true rfl) (fun G => rfl) ?_
  refine g_iconst (nI 0) dX0_countHeld_0 ki_0 ?_
  refine g_ist6_4 dX0_countHeld_1 (by decide) rfl ?_
  refine g_iconst (nI 0) dX0_countHeld_3 ki_0 ?_
  refine g_ist6_5 dX0_countHeld_4 (by decide) rfl ?_
  refine loop_up (P := fun i => Go mB_countHeld (d + 1) Q 6 [some (.ref 1), some (.ref 49), some (.int (hv q)), some (.int (nI k)), some (.int (nI (cnt (fun d => S 11 d 0 == k && f d == q) i))), some (.int (nI i))] [] M) (S 1 0 0) ?_ 0 (Nat.zero_le _)
  intro i hi ih
  refine g_iload dX0_countHeld_6 rfl ?_
  refine g_aload_n dX0_countHeld_8 rfl ?_
  refine g_geti (j := 1) dX0_countHeld_9 gc0 rfl (by decide) rfl (by decide) fl_B_53 ?_
  try simp (disch := omega) only [hB.nd, hB.kd, hf]
  refine g_icmp_ge_n 60 dX0_countHeld_12 (by decide) (by omega) (by omega) (fun c12 => ?_) (fun c12 => ?_)
  · refine g_iload dX0_countHeld_60 rfl ?_
    refine g_ireturn dX0_countHeld_62 rfl (by first | rfl | exact nar_bI _) ?_
    rw [show i = S 1 0 0 by omega]; exact h
  · have hdk := hB.wf.dk (d := i) (by omega)
    have hf8i := hf8 i (by omega)
    have ih2 := ih (by omega)
    refine g_iload dX0_countHeld_15 rfl ?_
    refine g_aload_n dX0_countHeld_17 rfl ?_
    refine g_getr (j := 12) dX0_countHeld_18 gc0 rfl (by decide) rfl (by decide) fl_B_40 ?_
    refine g_alen dX0_countHeld_21 (by first | rfl | assumption) (by first | decide | assumption) ?_
    refine g_icmp_ge_n 60 dX0_countHeld_22 (by decide) (by omega) (by omega) (fun c22 => ?_) (fun c22 => ?_)
    · exact absurd c22 (by omega)
    · refine g_iload dX0_countHeld_25 rfl ?_
      refine g_aload_n dX0_countHeld_27 rfl ?_
      refine g_alen dX0_countHeld_28 (by first | rfl | assumption) (by first | decide | assumption) ?_
      refine g_icmp_ge_n 60 dX0_countHeld_29 (by decide) (by omega) (by omega) (fun c29 => ?_) (fun c29 => ?_)
      · exact absurd c29 (by omega)
      · refine g_aload_n dX0_countHeld_32 rfl ?_
        refine g_getr (j := 12) dX0_countHeld_33 gc0 rfl (by decide) rfl (by decide) fl_B_40 ?_
        refine g_iload dX0_countHeld_36 rfl ?_
        refine g_iald_n dX0_countHeld_38 (by first | rfl | assumption) (by first | decide | assumption) (by omega) (by omega) ?_
        try simp (disch := omega) only [hB.nd, hB.kd, hf]
        refine g_iload_n dX0_countHeld_39 rfl ?_
        refine g_icmp_ne_n 54 dX0_countHeld_40 (by decide) (by omega) (by omega) (fun c40 => ?_) (fun c40 => ?_)
        · first | refine g_incn6_5 dX0_countHeld_54 ki_1 (by decide) rfl ?_ | refine g_incg6_5 (nI 1) dX0_countHeld_54 ki_1 (by decide) rfl ?_
          refine g_goto 6 dX0_countHeld_57 (by decide) ?_
          rw [cnt_f (by simp [c40])] at ih2; exact ih2
        · refine g_aload_n dX0_countHeld_43 rfl ?_
          refine g_iload dX0_countHeld_44 rfl ?_
          refine g_iald_n dX0_countHeld_46 (by first | rfl | assumption) (by first | decide | assumption) (by omega) (by omega) ?_
          try simp (disch := omega) only [hB.nd, hB.kd, hf]
          refine g_iload_n dX0_countHeld_47 rfl ?_
          refine g_icmp_ne 54 dX0_countHeld_48 (by decide) (fun c48 => ?_) (fun c48 => ?_)
          · first | refine g_incn6_5 dX0_countHeld_54 ki_1 (by decide) rfl ?_ | refine g_incg6_5 (nI 1) dX0_countHeld_54 ki_1 (by decide) rfl ?_
            refine g_goto 6 dX0_countHeld_57 (by decide) ?_
            rw [cnt_f (by rw [hv_inj hf8i hq] at c48; simp [c48])] at ih2; exact ih2
          · first | refine g_incn6_4 dX0_countHeld_51 ki_1 (by decide) rfl ?_ | refine g_incg6_4 (nI 1) dX0_countHeld_51 ki_1 (by decide) rfl ?_
            first | refine g_incn6_5 dX0_countHeld_54 ki_1 (by decide) rfl ?_ | refine g_incg6_5 (nI 1) dX0_countHeld_54 ki_1 (by decide) rfl ?_
            refine g_goto 6 dX0_countHeld_57 (by decide) ?_
            rw [cnt_t (by rw [hv_inj hf8i hq] at c48; simp [c48, c40])] at ih2; exact ih2
theorem SB_loadBy_49 {d : Nat} {M : Mm} {S : BS} {Q : Po} (hB : BK M S) (f : Nat → Nat) (hf : ∀ i, i < S 1 0 0 → M 49 i = hv (f i)) (hf8 : ∀ i, i < S 1 0 0 → f i ≤ 8) {p k : Nat} (hp : p < S 0 0 0) (hk : k < 4) (h : Q M (some (.int (nI (loadF S f p k))))) : Call (d + 3) mB_loadBy [.ref 1, .ref 49, .int (nI p), .int (nI k)] M Q := by
  have hw := hB.wf.np
  refine Call_of (m := mB_loadBy) [some (.ref 1), some (.ref 49), some (.int (nI p)), some (.int (nI k))] rfl (fun G => Nat.le_of_ble_eq_true rfl) (fun G => rfl) ?_
  refine g_aload_n dX0_loadBy_0 rfl ?_
  refine g_iload_n dX0_loadBy_1 rfl ?_
  refine g_iload_n dX0_loadBy_2 rfl ?_
  refine g_call2 dX0_loadBy_3 clB_pastOf ml_B_82 gc0 rfl rfl (by decide) (Nat.le_of_ble_eq_true rfl) ?_
  refine SB_pastOf hB hp hk ?_
  refine g_aload_n dX0_loadBy_6 rfl ?_
  refine g_iload_n dX0_loadBy_7 rfl ?_
  refine g_iload_n dX0_loadBy_8 rfl ?_
  refine g_call2 dX0_loadBy_9 clB_headOf ml_B_93 gc0 rfl rfl (by decide) (Nat.le_of_ble_eq_true rfl) ?_
  refine SB_headOf hB hp hk ?_
  first | refine g_iadd_n dX0_loadBy_12 ?_ | refine g_iadd dX0_loadBy_12 ?_
  refine g_aload_n dX0_loadBy_13 rfl ?_
  refine g_aload_n dX0_loadBy_14 rfl ?_
  refine g_iload_n dX0_loadBy_15 rfl ?_
  refine g_iload_n dX0_loadBy_16 rfl ?_
  refine g_call3 dX0_loadBy_17 clB_countHeld ml_B_96 gc0 rfl rfl (by decide) (Nat.le_of_ble_eq_true rfl) ?_
  rw [← hv_p (p := p) (by omega)]
  refine SB_countHeld_49 hB f hf hf8 (by omega) hk ?_
  first | refine g_iadd_n dX0_loadBy_20 ?_ | refine g_iadd dX0_loadBy_20 ?_
  refine g_ireturn dX0_loadBy_21 rfl (by first | rfl | exact nar_bI _) ?_
  exact h
theorem SB_loadOf {d : Nat} {M : Mm} {S : BS} {Q : Po} (hB : BK M S) {p k : Nat} (hp : p < S 0 0 0) (hk : k < 4) (h : Q M (some (.int (nI (loadN S p k))))) : Call (d + 4) mB_loadOf [.ref 1, .int (nI p), .int (nI k)] M Q := by
  refine Call_of (m := mB_loadOf) [some (.ref 1), some (.int (nI p)), some (.int (nI k))] rfl (fun G => Nat.le_of_ble_eq_true rfl) (fun G => rfl) ?_
  refine g_aload_n dX0_loadOf_0 rfl ?_
  refine g_aload_n dX0_loadOf_1 rfl ?_
  refine g_getr (j := 3) dX0_loadOf_2 gc0 rfl (by decide) rfl (by decide) fl_B_9 ?_
  refine g_iload_n dX0_loadOf_5 rfl ?_
  refine g_iload_n dX0_loadOf_6 rfl ?_
  refine g_call3 dX0_loadOf_7 clB_loadBy ml_B_89 gc0 rfl rfl (by decide) (Nat.le_of_ble_eq_true rfl) ?_
  refine SB_loadBy_2 hB (fun d => S 12 d 0) (fun i hi => hB.ho hi) (fun i hi => (hB.wf.dk (by have := hB.wf.nd; omega)).2.2) hp hk ?_
  refine g_ireturn dX0_loadOf_10 rfl (by first | rfl | exact nar_bI _) ?_
  exact h
def heldAll (S : BS) (q : Nat) : Nat := sumN (fun k => heldN S q k) 4
theorem SB_countHeldN {d : Nat} {M : Mm} {S : BS} {Q : Po} (hB : BK M S) {q k : Nat} (hq : q ≤ 8) (hk : k < 4) (h : Q M (some (.int (nI (heldN S q k))))) : Call (d + 1) mB_countHeld [.ref 1, .ref 2, .int (hv q), .int (nI k)] M Q :=
  SB_countHeld_2 hB (fun d => S 12 d 0) (fun i hi => hB.ho hi) (fun i hi => (hB.wf.dk (by have := hB.wf.nd; omega)).2.2) hq hk h
theorem SB_countHeldP {d : Nat} {M : Mm} {S : BS} {Q : Po} (hB : BK M S) {p k : Nat} (hp : p < 8) (hk : k < 4) (h : Q M (some (.int (nI (heldN S p k))))) : Call (d + 1) mB_countHeld [.ref 1, .ref 2, .int (nI p), .int (nI k)] M Q := by
  rw [← hv_p hp]
  exact SB_countHeldN hB (by omega) hk h
theorem SB_countHeldBy {d : Nat} {M : Mm} {S : BS} {Q : Po} (hB : BK M S) {q : Nat} (hq : q ≤ 8) (h : Q M (some (.int (nI (heldAll S q))))) : Call (d + 2) mB_countHeldBy [.ref 1, .int (hv q)] M Q := by
  refine Call_of (m := mB_countHeldBy) [some (.ref 1), some (.int (hv q)), none, none] rfl (fun G => Nat.le_of_ble_eq_true rfl) (fun G => rfl) ?_
  refine g_iconst (nI 0) dX0_countHeldBy_0 ki_0 ?_
  refine g_ist4_2 dX0_countHeldBy_1 (by decide) rfl ?_
  refine g_iconst (nI 0) dX0_countHeldBy_2 ki_0 ?_
  refine g_ist4_3 dX0_countHeldBy_3 (by decide) rfl ?_
  refine loop_up (P := fun i => Go mB_countHeldBy (d + 2) Q 4 [some (.ref 1), some (.int (hv q)), some (.int (nI (sumN (fun k => heldN S q k) i))), some (.int (nI i))] [] M) 4 ?_ 0 (Nat.zero_le _)
  intro i hi ih
  refine g_iload_n dX0_countHeldBy_4 rfl ?_
  refine g_iconst (nI 4) dX0_countHeldBy_5 ki_4 ?_
  refine g_icmp_ge_n 28 dX0_countHeldBy_6 (by decide) (by omega) (by omega) (fun c6 => ?_) (fun c6 => ?_)
  · refine g_iload_n dX0_countHeldBy_28 rfl ?_
    refine g_ireturn dX0_countHeldBy_29 rfl (by first | rfl | exact nar_bI _) ?_
    rw [show i = 4 by omega]; exact h
  · refine g_iload_n dX0_countHeldBy_9 rfl ?_
    refine g_aload_n dX0_countHeldBy_10 rfl ?_
    refine g_aload_n dX0_countHeldBy_11 rfl ?_
    refine g_getr (j := 3) dX0_countHeldBy_12 gc0 rfl (by decide) rfl (by decide) fl_B_9 ?_
    refine g_iload_n dX0_countHeldBy_15 rfl ?_
    refine g_iload_n dX0_countHeldBy_16 rfl ?_
    refine g_call3 dX0_countHeldBy_17 clB_countHeld ml_B_96 gc0 rfl rfl (by decide) (Nat.le_of_ble_eq_true rfl) ?_
    refine SB_countHeldN hB hq (by omega) ?_
    first | refine g_iadd_n dX0_countHeldBy_20 ?_ | refine g_iadd dX0_countHeldBy_20 ?_
    refine g_ist4_2 dX0_countHeldBy_21 (by decide) rfl ?_
    first | refine g_incn4_3 dX0_countHeldBy_22 ki_1 (by decide) rfl ?_ | refine g_incg4_3 (nI 1) dX0_countHeldBy_22 ki_1 (by decide) rfl ?_
    refine g_goto 4 dX0_countHeldBy_25 (by decide) ?_
    exact ih (by omega)
def bw (k : Nat) : Nat := [5, 3, 2, 1].getD k 0
theorem bw_of {k : Nat} (h : k < 4) : ([5, 3, 2, 1] : List Int32).getD k 0 = nI (bw k) := by
  match k, h with
  | 0, _ => decide +kernel
  | 1, _ => decide +kernel
  | 2, _ => decide +kernel
  | 3, _ => decide +kernel
def burN (S : BS) (p : Nat) : Nat := sumN (fun k => bw k * (S 5 p k + heldN S p k)) 4
theorem SB_burdenOf {d : Nat} {M : Mm} {S : BS} {Q : Po} (hB : BK M S) {p : Nat} (hp : p < S 0 0 0) (h : Q M (some (.int (nI (burN S p))))) : Call (d + 3) mB_burdenOf [.ref 1, .int (nI p)] M Q := by
  have hw := hB.wf.np
  refine Call_of (m := mB_burdenOf) [some (.ref 1), some (.int (nI p)), none, none] rfl (fun G => Nat.le_of_ble_eq_true rfl) (fun G => rfl) ?_
  refine g_iconst (nI 0) dX0_burdenOf_0 ki_0 ?_
  refine g_ist4_2 dX0_burdenOf_1 (by decide) rfl ?_
  refine g_iconst (nI 0) dX0_burdenOf_2 ki_0 ?_
  refine g_ist4_3 dX0_burdenOf_3 (by decide) rfl ?_
  refine loop_up (P := fun i => Go mB_burdenOf (d + 3) Q 4 [some (.ref 1), some (.int (nI p)), some (.int (nI (sumN (fun k => bw k * (S 5 p k + heldN S p k)) i))), some (.int (nI i))] [] M) 4 ?_ 0 (Nat.zero_le _)
  intro i hi ih
  refine g_iload_n dX0_burdenOf_4 rfl ?_
  refine g_iconst (nI 4) dX0_burdenOf_5 ki_4 ?_
  refine g_icmp_ge_n 41 dX0_burdenOf_6 (by decide) (by omega) (by omega) (fun c6 => ?_) (fun c6 => ?_)
  · refine g_iload_n dX0_burdenOf_41 rfl ?_
    refine g_ireturn dX0_burdenOf_42 rfl (by first | rfl | exact nar_bI _) ?_
    rw [show i = 4 by omega]; exact h
  · skip
    refine g_iload_n dX0_burdenOf_9 rfl ?_
    refine g_burdens dX0_burdenOf_10 (by decide) ?_
    refine g_iload_n dX0_burdenOf_13 rfl ?_
    refine g_burAt _ dX0_burdenOf_14 (by omega) rfl ?_
    try simp (disch := omega) only [bw_of]
    refine g_aload_n dX0_burdenOf_15 rfl ?_
    refine g_iload_n dX0_burdenOf_16 rfl ?_
    refine g_iload_n dX0_burdenOf_17 rfl ?_
    refine g_call2 dX0_burdenOf_18 clB_pastOf ml_B_82 gc0 rfl rfl (by decide) (Nat.le_of_ble_eq_true rfl) ?_
    refine SB_pastOf hB hp (by omega) ?_
    refine g_aload_n dX0_burdenOf_21 rfl ?_
    refine g_aload_n dX0_burdenOf_22 rfl ?_
    refine g_getr (j := 3) dX0_burdenOf_23 gc0 rfl (by decide) rfl (by decide) fl_B_9 ?_
    refine g_iload_n dX0_burdenOf_26 rfl ?_
    refine g_iload_n dX0_burdenOf_27 rfl ?_
    refine g_call3 dX0_burdenOf_28 clB_countHeld ml_B_96 gc0 rfl rfl (by decide) (Nat.le_of_ble_eq_true rfl) ?_
    refine SB_countHeldP hB (by omega) (by omega) ?_
    first | refine g_iadd_n dX0_burdenOf_31 ?_ | refine g_iadd dX0_burdenOf_31 ?_
    first | refine g_imul_n dX0_burdenOf_32 ?_ | refine g_imul dX0_burdenOf_32 ?_
    first | refine g_iadd_n dX0_burdenOf_33 ?_ | refine g_iadd dX0_burdenOf_33 ?_
    refine g_ist4_2 dX0_burdenOf_34 (by decide) rfl ?_
    first | refine g_incn4_3 dX0_burdenOf_35 ki_1 (by decide) rfl ?_ | refine g_incg4_3 (nI 1) dX0_burdenOf_35 ki_1 (by decide) rfl ?_
    refine g_goto 4 dX0_burdenOf_38 (by decide) ?_
    exact ih (by omega)
def pastSum (S : BS) (k : Nat) (n : Nat) : Nat := sumN (fun p => if hr S p = true then S 5 p k else 0) n
def neuN (S : BS) (k : Nat) : Nat := if cnt (hr S) (S 0 0 0) = 0 then 0 else pastSum S k (S 0 0 0) / cnt (hr S) (S 0 0 0)
theorem pastSum_le {S : BS} (hW : WF S) {k : Nat} (hk : k < 4) : ∀ {n : Nat}, n ≤ 8 → pastSum S k n ≤ 999 * n := by
  intro n
  induction n with
  | zero => intro _; exact Nat.le_refl 0
  | succ n ih =>
    intro hn
    have h1 := ih (by omega)
    have h2 := hW.ps (p := n) (by omega) hk
    unfold pastSum at h1 ⊢
    rw [sumN]
    split <;> omega
theorem SB_neutralPast {d : Nat} {M : Mm} {S : BS} {Q : Po} (hB : BK M S) {k : Nat} (hk : k < 4) (h : Q M (some (.int (nI (neuN S k))))) : Call (d + 3) mB_neutralPast [.ref 1, .int (nI k)] M Q := by
  have hw := hB.wf.np
  refine Call_of (m := mB_neutralPast) [some (.ref 1), some (.int (nI k)), none, none, none] rfl (fun G => Nat.le_of_ble_eq_true rfl) (fun G => rfl) ?_
  refine g_iconst (nI 0) dX0_neutralPast_0 ki_0 ?_
  refine g_ist5_2 dX0_neutralPast_1 (by decide) rfl ?_
  refine g_iconst (nI 0) dX0_neutralPast_2 ki_0 ?_
  refine g_ist5_3 dX0_neutralPast_3 (by decide) rfl ?_
  refine g_iconst (nI 0) dX0_neutralPast_4 ki_0 ?_
  refine g_ist5_4 dX0_neutralPast_5 (by decide) rfl ?_
  refine loop_up (P := fun i => Go mB_neutralPast (d + 3) Q 7 [some (.ref 1), some (.int (nI k)), some (.int (nI (pastSum S k i))), some (.int (nI (cnt (hr S) i))), some (.int (nI i))] [] M) (S 0 0 0) ?_ 0 (Nat.zero_le _)
  intro i hi ih
  refine g_iload dX0_neutralPast_7 rfl ?_
  refine g_aload_n dX0_neutralPast_9 rfl ?_
  refine g_geti (j := 0) dX0_neutralPast_10 gc0 rfl (by decide) rfl (by decide) fl_B_49 ?_
  try simp (disch := omega) only [hB.np]
  refine g_icmp_ge_n 47 dX0_neutralPast_13 (by decide) (by omega) (by omega) (fun c13 => ?_) (fun c13 => ?_)
  · obtain rfl : i = S 0 0 0 := by omega
    have h1 := pastSum_le hB.wf hk (n := S 0 0 0) hw
    have h2 := cnt_le (hr S) (S 0 0 0)
    unfold neuN at h
    refine g_iload_n dX0_neutralPast_47 rfl ?_
    refine g_if_ne_n 55 dX0_neutralPast_48 (by decide) (by omega) (fun c48 => ?_) (fun c48 => ?_)
    · refine g_iload_n dX0_neutralPast_55 rfl ?_
      refine g_iload_n dX0_neutralPast_56 rfl ?_
      refine g_idiv_n dX0_neutralPast_57 (by omega) (by omega) (by omega) ?_
      refine g_ireturn dX0_neutralPast_58 rfl (by first | rfl | exact nar_bI _) ?_
      rw [if_neg c48] at h; exact h
    · refine g_iconst (nI 0) dX0_neutralPast_51 ki_0 ?_
      refine g_goto 58 dX0_neutralPast_52 (by decide) ?_
      refine g_ireturn dX0_neutralPast_58 rfl (by first | rfl | exact nar_bI _) ?_
      rw [if_pos c48] at h; exact h
  · have ih2 := ih (by omega)
    refine g_aload_n dX0_neutralPast_16 rfl ?_
    refine g_iload dX0_neutralPast_17 rfl ?_
    refine g_call1 dX0_neutralPast_19 clB_isHere ml_B_56 gc0 rfl rfl (by decide) (Nat.le_of_ble_eq_true rfl) ?_
    refine SB_isHere hB (by omega) ?_
    refine g_if_ne_b 28 dX0_neutralPast_22 (by decide) (fun c22 => ?_) (fun c22 => ?_)
    · skip
      refine g_iload_n dX0_neutralPast_28 rfl ?_
      refine g_aload_n dX0_neutralPast_29 rfl ?_
      refine g_iload dX0_neutralPast_30 rfl ?_
      refine g_iload_n dX0_neutralPast_32 rfl ?_
      refine g_call2 dX0_neutralPast_33 clB_pastOf ml_B_82 gc0 rfl rfl (by decide) (Nat.le_of_ble_eq_true rfl) ?_
      refine SB_pastOf hB (by omega) hk ?_
      first | refine g_iadd_n dX0_neutralPast_36 ?_ | refine g_iadd dX0_neutralPast_36 ?_
      refine g_ist5_2 dX0_neutralPast_37 (by decide) rfl ?_
      first | refine g_incn5_3 dX0_neutralPast_38 ki_1 (by decide) rfl ?_ | refine g_incg5_3 (nI 1) dX0_neutralPast_38 ki_1 (by decide) rfl ?_
      first | refine g_incn5_4 dX0_neutralPast_41 ki_1 (by decide) rfl ?_ | refine g_incg5_4 (nI 1) dX0_neutralPast_41 ki_1 (by decide) rfl ?_
      refine g_goto 7 dX0_neutralPast_44 (by decide) ?_
      rw [cnt_t c22] at ih2
      unfold pastSum at ih2 ⊢
      rw [sumN, if_pos c22] at ih2
      exact ih2
    · refine g_goto 41 dX0_neutralPast_25 (by decide) ?_
      first | refine g_incn5_4 dX0_neutralPast_41 ki_1 (by decide) rfl ?_ | refine g_incg5_4 (nI 1) dX0_neutralPast_41 ki_1 (by decide) rfl ?_
      refine g_goto 7 dX0_neutralPast_44 (by decide) ?_
      rw [cnt_f c22] at ih2
      unfold pastSum at ih2 ⊢
      rw [sumN, if_neg (by rw [c22]; decide)] at ih2
      exact ih2
/-- whether a RULE is against a DUTY of a day and a kind -/
def agB (s a b dd kk : Nat) : Bool := if s = 0 then decide (a ≤ dd ∧ dd ≤ b) else if s = 1 then kk == a else decide (dd % a ≠ b)
theorem SB_isAgainst {d : Nat} {M : Mm} {S : BS} {Q : Po} (hB : BK M S) {p r dd kk : Nat} (hp : p < S 0 0 0) (hr : r < S 6 p 0) (hdd : dd ≤ 365) (hkk : kk < 4) (h : Q M (some (.int (bI (agB (S 7 p r) (S 8 p r) (S 9 p r) dd kk))))) : Call (d + 1) mB_isAgainst [.ref 1, .int (nI (p * 8 + r)), .int (nI dd), .int (nI kk)] M Q := by
  have hw := hB.wf.np
  have hnr := hB.wf.nr (p := p) (by omega)
  obtain ⟨w1, w2, w3, w4⟩ := hB.wf.rl (p := p) (r := r) (by omega) (by omega)
  have e7 := hB.rs hp hr
  have e8 := hB.ra hp hr
  have e9 := hB.rb hp hr
  unfold agB at h
  refine Call_of (m := mB_isAgainst) [some (.ref 1), some (.int (nI (p * 8 + r))), some (.int (nI dd)), some (.int (nI kk)), none, none] rfl (fun G => Nat.le_of_ble_eq_true rfl) (fun G => rfl) ?_
  refine g_iload_n dX0_isAgainst_0 rfl ?_
  refine g_if_lt_n 13 dX0_isAgainst_1 (by decide) (by omega) ?_
  refine g_iload_n dX0_isAgainst_4 rfl ?_
  refine g_aload_n dX0_isAgainst_5 rfl ?_
  refine g_getr (j := 8) dX0_isAgainst_6 gc0 rfl (by decide) rfl (by decide) fl_B_28 ?_
  refine g_alen dX0_isAgainst_9 (by first | rfl | assumption) (by first | decide | assumption) ?_
  refine g_icmp_lt_n 15 dX0_isAgainst_10 (by decide) (by omega) (by omega) (fun c10 => ?_) (fun c10 => ?_)
  rotate_left
  · exact absurd c10 (by omega)
  refine g_aload_n dX0_isAgainst_15 rfl ?_
  refine g_getr (j := 9) dX0_isAgainst_16 gc0 rfl (by decide) rfl (by decide) fl_B_31 ?_
  refine g_iload_n dX0_isAgainst_19 rfl ?_
  refine g_iald_n dX0_isAgainst_20 (by first | rfl | assumption) (by first | decide | assumption) (by omega) (by omega) ?_
  try simp (disch := omega) only [e7, e8]
  refine g_ist6_4 dX0_isAgainst_21 (by decide) rfl ?_
  refine g_aload_n dX0_isAgainst_23 rfl ?_
  refine g_getr (j := 10) dX0_isAgainst_24 gc0 rfl (by decide) rfl (by decide) fl_B_34 ?_
  refine g_iload_n dX0_isAgainst_27 rfl ?_
  refine g_iald_n dX0_isAgainst_28 (by first | rfl | assumption) (by first | decide | assumption) (by omega) (by omega) ?_
  try simp (disch := omega) only [e7, e8]
  refine g_ist6_5 dX0_isAgainst_29 (by decide) rfl ?_
  refine g_aload_n dX0_isAgainst_31 rfl ?_
  refine g_getr (j := 8) dX0_isAgainst_32 gc0 rfl (by decide) rfl (by decide) fl_B_28 ?_
  refine g_iload_n dX0_isAgainst_35 rfl ?_
  refine g_iald_n dX0_isAgainst_36 (by first | rfl | assumption) (by first | decide | assumption) (by omega) (by omega) ?_
  try simp (disch := omega) only [e7, e8]
  obtain h0 | h0 | h0 : S 7 p r = 0 ∨ S 7 p r = 1 ∨ S 7 p r = 2 := by omega
  · rw [h0]
    rw [if_pos h0] at h
    refine g_tswI (off := 27) 64 dX0_isAgainst_37 (by decide) (by decide) (by decide) (by decide) ?_
    rw [e9 (by omega)]
    refine g_iload_n dX0_isAgainst_64 rfl ?_
    refine g_iload dX0_isAgainst_65 rfl ?_
    refine g_icmp_lt_n 80 dX0_isAgainst_67 (by decide) (by omega) (by omega) (fun c67 => ?_) (fun c67 => ?_)
    · refine g_iconst (nI 0) dX0_isAgainst_80 ki_0 ?_
      refine g_ireturn dX0_isAgainst_81 rfl (by first | rfl | exact nar_bI _) ?_
      exact qb_f h (decide_eq_false (by omega))
    · refine g_iload_n dX0_isAgainst_70 rfl ?_
      refine g_iload dX0_isAgainst_71 rfl ?_
      refine g_icmp_gt_n 80 dX0_isAgainst_73 (by decide) (by omega) (by omega) (fun c73 => ?_) (fun c73 => ?_)
      · refine g_iconst (nI 0) dX0_isAgainst_80 ki_0 ?_
        refine g_ireturn dX0_isAgainst_81 rfl (by first | rfl | exact nar_bI _) ?_
        exact qb_f h (decide_eq_false (by omega))
      · refine g_iconst (nI 1) dX0_isAgainst_76 ki_1 ?_
        refine g_goto 81 dX0_isAgainst_77 (by decide) ?_
        refine g_ireturn dX0_isAgainst_81 rfl (by first | rfl | exact nar_bI _) ?_
        exact qb_t h (decide_eq_true (by omega))
  · rw [h0]
    rw [if_neg (by omega), if_pos h0] at h
    refine g_tswI (off := 45) 82 dX0_isAgainst_37 (by decide) (by decide) (by decide) (by decide) ?_
    refine g_iload_n dX0_isAgainst_82 rfl ?_
    refine g_iload dX0_isAgainst_83 rfl ?_
    refine g_icmp_ne_n 92 dX0_isAgainst_85 (by decide) (by omega) (by omega) (fun c85 => ?_) (fun c85 => ?_)
    · refine g_iconst (nI 0) dX0_isAgainst_92 ki_0 ?_
      refine g_ireturn dX0_isAgainst_93 rfl (by first | rfl | exact nar_bI _) ?_
      exact qb_f h (by simp [c85])
    · refine g_iconst (nI 1) dX0_isAgainst_88 ki_1 ?_
      refine g_goto 93 dX0_isAgainst_89 (by decide) ?_
      refine g_ireturn dX0_isAgainst_93 rfl (by first | rfl | exact nar_bI _) ?_
      exact qb_t h (by simp [c85])
  · rw [h0]
    have w5 := w4 h0
    rw [if_neg (by omega), if_neg (by omega)] at h
    refine g_tswI (off := 57) 94 dX0_isAgainst_37 (by decide) (by decide) (by decide) (by decide) ?_
    rw [e9 (by omega)]
    refine g_iload dX0_isAgainst_94 rfl ?_
    refine g_if_le_n 112 dX0_isAgainst_96 (by decide) (by omega) (fun c96 => ?_) (fun c96 => ?_)
    · exact absurd c96 (by omega)
    · have hm := Nat.mod_lt dd (show 0 < S 8 p r by omega)
      refine g_iload_n dX0_isAgainst_99 rfl ?_
      refine g_iload dX0_isAgainst_100 rfl ?_
      refine g_irem_n dX0_isAgainst_102 (by omega) (by omega) (by omega) ?_
      refine g_iload dX0_isAgainst_103 rfl ?_
      refine g_icmp_eq_n 112 dX0_isAgainst_105 (by decide) (by omega) (by omega) (fun c105 => ?_) (fun c105 => ?_)
      · refine g_iconst (nI 0) dX0_isAgainst_112 ki_0 ?_
        refine g_ireturn dX0_isAgainst_113 rfl (by first | rfl | exact nar_bI _) ?_
        exact qb_f h (by simp [c105])
      · refine g_iconst (nI 1) dX0_isAgainst_108 ki_1 ?_
        refine g_goto 113 dX0_isAgainst_109 (by decide) ?_
        refine g_ireturn dX0_isAgainst_113 rfl (by first | rfl | exact nar_bI _) ?_
        exact qb_t h (by simp [c105])
/-! BOOK: may, days, places -/
def mayB (S : BS) (p d : Nat) : Bool := hr S p && decide (∀ r, r < S 6 p 0 → agB (S 7 p r) (S 8 p r) (S 9 p r) (S 10 d 0) (S 11 d 0) = false)
theorem hr_np {S : BS} (hW : WF S) {p : Nat} (h : hr S p = true) : p < S 0 0 0 := by
  rw [hr_of] at h
  rcases Nat.lt_or_ge p (S 0 0 0) with q | q
  · exact q
  · rw [hW.out q] at h; omega
theorem SB_mayHold {d : Nat} {M : Mm} {S : BS} {Q : Po} (hB : BK M S) {p e : Nat} (hp : p < 2 ^ 31) (he : e < S 1 0 0) (h : Q M (some (.int (bI (mayB S p e))))) : Call (d + 2) mB_mayHold [.ref 1, .int (nI p), .int (nI e)] M Q := by
  have hw := hB.wf.np
  have hw2 := hB.wf.nd
  refine Call_of (m := mB_mayHold) [some (.ref 1), some (.int (nI p)), some (.int (nI e)), none] rfl (fun G => Nat.le_of_ble_eq_true rfl) (fun G => rfl) ?_
  refine g_aload_n dX0_mayHold_0 rfl ?_
  refine g_iload_n dX0_mayHold_1 rfl ?_
  refine g_call1 dX0_mayHold_2 clB_isHere ml_B_56 gc0 rfl rfl (by decide) (Nat.le_of_ble_eq_true rfl) ?_
  refine SB_isHere hB hp ?_
  refine g_if_eq_b 16 dX0_mayHold_5 (by decide) (fun c5 => ?_) (fun c5 => ?_)
  · refine g_iconst (nI 0) dX0_mayHold_16 ki_0 ?_
    refine g_ireturn dX0_mayHold_17 rfl (by first | rfl | exact nar_bI _) ?_
    exact qb_f h (by unfold mayB; rw [c5]; rfl)
  · have hpn := hr_np hB.wf c5
    have hnr := hB.wf.nr (p := p) (by omega)
    have hdk := hB.wf.dk (d := e) (by omega)
    refine g_aload_n dX0_mayHold_8 rfl ?_
    refine g_iload_n dX0_mayHold_9 rfl ?_
    refine g_call1 dX0_mayHold_10 clB_isDuty ml_B_105 gc0 rfl rfl (by decide) (Nat.le_of_ble_eq_true rfl) ?_
    refine SB_isDutyT hB he ?_
    refine g_if_ne_tt 18 dX0_mayHold_13 (by decide) ?_
    refine g_iconst (nI 0) dX0_mayHold_18 ki_0 ?_
    refine g_ist4_3 dX0_mayHold_19 (by decide) rfl ?_
    refine loop_up (P := fun i => (∀ r, r < i → agB (S 7 p r) (S 8 p r) (S 9 p r) (S 10 e 0) (S 11 e 0) = false) → Go mB_mayHold (d + 2) Q 20 [some (.ref 1), some (.int (nI p)), some (.int (nI e)), some (.int (nI i))] [] M) (S 6 p 0) ?_ 0 (Nat.zero_le _) (fun r hr => absurd hr (by omega))
    intro i hi ih hno
    refine g_iload_n dX0_mayHold_20 rfl ?_
    refine g_aload_n dX0_mayHold_21 rfl ?_
    refine g_getr (j := 7) dX0_mayHold_22 gc0 rfl (by decide) rfl (by decide) fl_B_25 ?_
    refine g_iload_n dX0_mayHold_25 rfl ?_
    refine g_iald_n dX0_mayHold_26 (by first | rfl | assumption) (by first | decide | assumption) (by omega) (by omega) ?_
    try simp (disch := omega) only [hB.nr, hB.dy, hB.kd]
    refine g_icmp_ge_n 69 dX0_mayHold_27 (by decide) (by omega) (by omega) (fun c27 => ?_) (fun c27 => ?_)
    · refine g_iconst (nI 1) dX0_mayHold_69 ki_1 ?_
      refine g_ireturn dX0_mayHold_70 rfl (by first | rfl | exact nar_bI _) ?_
      exact qb_t h (by unfold mayB; rw [c5, Bool.true_and]; exact decide_eq_true (fun r hr => hno r (by omega)))
    · refine g_iload_n dX0_mayHold_30 rfl ?_
      refine g_bipush (nI 8) dX0_mayHold_31 kb_8 ?_
      refine g_icmp_ge_n 69 dX0_mayHold_33 (by decide) (by omega) (by omega) (fun c33 => ?_) (fun c33 => ?_)
      · exact absurd c33 (by omega)
      · skip
        refine g_aload_n dX0_mayHold_36 rfl ?_
        refine g_iload_n dX0_mayHold_37 rfl ?_
        refine g_bipush (nI 8) dX0_mayHold_38 kb_8 ?_
        first | refine g_imul_n dX0_mayHold_40 ?_ | refine g_imul dX0_mayHold_40 ?_
        refine g_iload_n dX0_mayHold_41 rfl ?_
        first | refine g_iadd_n dX0_mayHold_42 ?_ | refine g_iadd dX0_mayHold_42 ?_
        refine g_aload_n dX0_mayHold_43 rfl ?_
        refine g_getr (j := 11) dX0_mayHold_44 gc0 rfl (by decide) rfl (by decide) fl_B_37 ?_
        refine g_iload_n dX0_mayHold_47 rfl ?_
        refine g_iald_n dX0_mayHold_48 (by first | rfl | assumption) (by first | decide | assumption) (by omega) (by omega) ?_
        try simp (disch := omega) only [hB.nr, hB.dy, hB.kd]
        refine g_aload_n dX0_mayHold_49 rfl ?_
        refine g_getr (j := 12) dX0_mayHold_50 gc0 rfl (by decide) rfl (by decide) fl_B_40 ?_
        refine g_iload_n dX0_mayHold_53 rfl ?_
        refine g_iald_n dX0_mayHold_54 (by first | rfl | assumption) (by first | decide | assumption) (by omega) (by omega) ?_
        try simp (disch := omega) only [hB.nr, hB.dy, hB.kd]
        refine g_call3 dX0_mayHold_55 clB_isAgainst ml_B_108 gc0 rfl rfl (by decide) (Nat.le_of_ble_eq_true rfl) ?_
        refine SB_isAgainst hB hpn (by omega) hdk.1 (by omega) ?_
        refine g_if_eq_b 63 dX0_mayHold_58 (by decide) (fun c58 => ?_) (fun c58 => ?_)
        · first | refine g_incn4_3 dX0_mayHold_63 ki_1 (by decide) rfl ?_ | refine g_incg4_3 (nI 1) dX0_mayHold_63 ki_1 (by decide) rfl ?_
          refine g_goto 20 dX0_mayHold_66 (by decide) ?_
          exact ih (by omega) (fun r hr => by
            rcases Nat.lt_or_ge r i with q | q
            · exact hno r q
            · rw [show r = i by omega]; exact c58)
        · refine g_iconst (nI 0) dX0_mayHold_61 ki_0 ?_
          refine g_ireturn dX0_mayHold_62 rfl (by first | rfl | exact nar_bI _) ?_
          exact qb_f h (by
            unfold mayB
            rw [c5, Bool.true_and]
            refine decide_eq_false (fun hall => ?_)
            have := hall i (by omega)
            rw [c58] at this
            cases this)
def whoN (S : BS) (e : Nat) : Nat := cnt (fun p => mayB S p e) (S 0 0 0)
theorem SB_countWhoMayHold {d : Nat} {M : Mm} {S : BS} {Q : Po} (hB : BK M S) {e : Nat} (he : e < S 1 0 0) (h : Q M (some (.int (nI (whoN S e))))) : Call (d + 3) mB_countWhoMayHold [.ref 1, .int (nI e)] M Q := by
  have hw := hB.wf.np
  have hw2 := hB.wf.nd
  refine Call_of (m := mB_countWhoMayHold) [some (.ref 1), some (.int (nI e)), none, none] rfl (fun G => Nat.le_of_ble_eq_true rfl) (fun G => rfl) ?_
  refine g_iconst (nI 0) dX0_countWhoMayHold_0 ki_0 ?_
  refine g_ist4_2 dX0_countWhoMayHold_1 (by decide) rfl ?_
  refine g_iconst (nI 0) dX0_countWhoMayHold_2 ki_0 ?_
  refine g_ist4_3 dX0_countWhoMayHold_3 (by decide) rfl ?_
  refine loop_up (P := fun i => Go mB_countWhoMayHold (d + 3) Q 4 [some (.ref 1), some (.int (nI e)), some (.int (nI (cnt (fun p => mayB S p e) i))), some (.int (nI i))] [] M) (S 0 0 0) ?_ 0 (Nat.zero_le _)
  intro i hi ih
  refine g_iload_n dX0_countWhoMayHold_4 rfl ?_
  refine g_aload_n dX0_countWhoMayHold_5 rfl ?_
  refine g_geti (j := 0) dX0_countWhoMayHold_6 gc0 rfl (by decide) rfl (by decide) fl_B_49 ?_
  try simp (disch := omega) only [hB.np]
  refine g_icmp_ge_n 30 dX0_countWhoMayHold_9 (by decide) (by omega) (by omega) (fun c9 => ?_) (fun c9 => ?_)
  · refine g_iload_n dX0_countWhoMayHold_30 rfl ?_
    refine g_ireturn dX0_countWhoMayHold_31 rfl (by first | rfl | exact nar_bI _) ?_
    rw [show i = S 0 0 0 by omega]; exact h
  · have ih2 := ih (by omega)
    refine g_aload_n dX0_countWhoMayHold_12 rfl ?_
    refine g_iload_n dX0_countWhoMayHold_13 rfl ?_
    refine g_iload_n dX0_countWhoMayHold_14 rfl ?_
    refine g_call2 dX0_countWhoMayHold_15 clB_mayHold ml_B_74 gc0 rfl rfl (by decide) (Nat.le_of_ble_eq_true rfl) ?_
    refine SB_mayHold hB (by omega) he ?_
    refine g_if_eq_b 24 dX0_countWhoMayHold_18 (by decide) (fun c18 => ?_) (fun c18 => ?_)
    · first | refine g_incn4_3 dX0_countWhoMayHold_24 ki_1 (by decide) rfl ?_ | refine g_incg4_3 (nI 1) dX0_countWhoMayHold_24 ki_1 (by decide) rfl ?_
      refine g_goto 4 dX0_countWhoMayHold_27 (by decide) ?_
      rw [cnt_f (f := fun p => mayB S p e) c18] at ih2; exact ih2
    · first | refine g_incn4_2 dX0_countWhoMayHold_21 ki_1 (by decide) rfl ?_ | refine g_incg4_2 (nI 1) dX0_countWhoMayHold_21 ki_1 (by decide) rfl ?_
      first | refine g_incn4_3 dX0_countWhoMayHold_24 ki_1 (by decide) rfl ?_ | refine g_incg4_3 (nI 1) dX0_countWhoMayHold_24 ki_1 (by decide) rfl ?_
      refine g_goto 4 dX0_countWhoMayHold_27 (by decide) ?_
      rw [cnt_t (f := fun p => mayB S p e) c18] at ih2; exact ih2
theorem SB_dayOf {d : Nat} {M : Mm} {S : BS} {Q : Po} (hB : BK M S) {e : Nat} (he : e < S 1 0 0) (h : Q M (some (.int (nI (S 10 e 0))))) : Call (d + 2) mB_dayOf [.ref 1, .int (nI e)] M Q := by
  have hw2 := hB.wf.nd
  refine Call_of (m := mB_dayOf) [some (.ref 1), some (.int (nI e))] rfl (fun G => Nat.le_of_ble_eq_true rfl) (fun G => rfl) ?_
  refine g_aload_n dX0_dayOf_0 rfl ?_
  refine g_iload_n dX0_dayOf_1 rfl ?_
  refine g_call1 dX0_dayOf_2 clB_isDuty ml_B_105 gc0 rfl rfl (by decide) (Nat.le_of_ble_eq_true rfl) ?_
  refine SB_isDutyT hB he ?_
  refine g_if_eq_tt 17 dX0_dayOf_5 (by decide) ?_
  refine g_aload_n dX0_dayOf_8 rfl ?_
  refine g_getr (j := 11) dX0_dayOf_9 gc0 rfl (by decide) rfl (by decide) fl_B_37 ?_
  refine g_iload_n dX0_dayOf_12 rfl ?_
  refine g_iald_n dX0_dayOf_13 (by first | rfl | assumption) (by first | decide | assumption) (by omega) (by omega) ?_
  try simp (disch := omega) only [hB.dy]
  refine g_goto 18 dX0_dayOf_14 (by decide) ?_
  refine g_ireturn dX0_dayOf_18 rfl (by first | rfl | exact nar_bI _) ?_
  exact h
theorem SB_dayOfF {d : Nat} {M : Mm} {S : BS} {Q : Po} (hB : BK M S) {x : Int32} (he : inR x (S 1 0 0) = false) (h : Q M (some (.int (-1)))) : Call (d + 2) mB_dayOf [.ref 1, .int x] M Q := by
  refine Call_of (m := mB_dayOf) [some (.ref 1), some (.int x)] rfl (fun G => Nat.le_of_ble_eq_true rfl) (fun G => rfl) ?_
  refine g_aload_n dX0_dayOf_0 rfl ?_
  refine g_iload_n dX0_dayOf_1 rfl ?_
  refine g_call1 dX0_dayOf_2 clB_isDuty ml_B_105 gc0 rfl rfl (by decide) (Nat.le_of_ble_eq_true rfl) ?_
  refine SB_isDuty hB x ?_
  refine g_if_eq_b 17 dX0_dayOf_5 (by decide) (fun c5 => ?_) (fun c5 => ?_)
  · refine g_iconst ((-1)) dX0_dayOf_17 ki_m1 ?_
    refine g_ireturn dX0_dayOf_18 rfl (by first | rfl | exact nar_bI _) ?_
    exact h
  · rw [he] at c5; cases c5
theorem SB_kindOf {d : Nat} {M : Mm} {S : BS} {Q : Po} (hB : BK M S) {e : Nat} (he : e < S 1 0 0) (h : Q M (some (.int (nI (S 11 e 0))))) : Call (d + 2) mB_kindOf [.ref 1, .int (nI e)] M Q := by
  have hw2 := hB.wf.nd
  refine Call_of (m := mB_kindOf) [some (.ref 1), some (.int (nI e))] rfl (fun G => Nat.le_of_ble_eq_true rfl) (fun G => rfl) ?_
  refine g_aload_n dX0_kindOf_0 rfl ?_
  refine g_iload_n dX0_kindOf_1 rfl ?_
  refine g_call1 dX0_kindOf_2 clB_isDuty ml_B_105 gc0 rfl rfl (by decide) (Nat.le_of_ble_eq_true rfl) ?_
  refine SB_isDutyT hB he ?_
  refine g_if_eq_tt 17 dX0_kindOf_5 (by decide) ?_
  refine g_aload_n dX0_kindOf_8 rfl ?_
  refine g_getr (j := 12) dX0_kindOf_9 gc0 rfl (by decide) rfl (by decide) fl_B_40 ?_
  refine g_iload_n dX0_kindOf_12 rfl ?_
  refine g_iald_n dX0_kindOf_13 (by first | rfl | assumption) (by first | decide | assumption) (by omega) (by omega) ?_
  try simp (disch := omega) only [hB.kd]
  refine g_goto 18 dX0_kindOf_14 (by decide) ?_
  refine g_ireturn dX0_kindOf_18 rfl (by first | rfl | exact nar_bI _) ?_
  exact h
theorem SB_kindOfF {d : Nat} {M : Mm} {S : BS} {Q : Po} (hB : BK M S) {x : Int32} (he : inR x (S 1 0 0) = false) (h : Q M (some (.int (-1)))) : Call (d + 2) mB_kindOf [.ref 1, .int x] M Q := by
  refine Call_of (m := mB_kindOf) [some (.ref 1), some (.int x)] rfl (fun G => Nat.le_of_ble_eq_true rfl) (fun G => rfl) ?_
  refine g_aload_n dX0_kindOf_0 rfl ?_
  refine g_iload_n dX0_kindOf_1 rfl ?_
  refine g_call1 dX0_kindOf_2 clB_isDuty ml_B_105 gc0 rfl rfl (by decide) (Nat.le_of_ble_eq_true rfl) ?_
  refine SB_isDuty hB x ?_
  refine g_if_eq_b 17 dX0_kindOf_5 (by decide) (fun c5 => ?_) (fun c5 => ?_)
  · refine g_iconst ((-1)) dX0_kindOf_17 ki_m1 ?_
    refine g_ireturn dX0_kindOf_18 rfl (by first | rfl | exact nar_bI _) ?_
    exact h
  · rw [he] at c5; cases c5
theorem SB_holderOf {d : Nat} {M : Mm} {S : BS} {Q : Po} (hB : BK M S) {e : Nat} (he : e < S 1 0 0) (h : Q M (some (.int (hv (S 12 e 0))))) : Call (d + 2) mB_holderOf [.ref 1, .int (nI e)] M Q := by
  have hw2 := hB.wf.nd
  refine Call_of (m := mB_holderOf) [some (.ref 1), some (.int (nI e))] rfl (fun G => Nat.le_of_ble_eq_true rfl) (fun G => rfl) ?_
  refine g_aload_n dX0_holderOf_0 rfl ?_
  refine g_iload_n dX0_holderOf_1 rfl ?_
  refine g_call1 dX0_holderOf_2 clB_isDuty ml_B_105 gc0 rfl rfl (by decide) (Nat.le_of_ble_eq_true rfl) ?_
  refine SB_isDutyT hB he ?_
  refine g_if_eq_tt 17 dX0_holderOf_5 (by decide) ?_
  refine g_aload_n dX0_holderOf_8 rfl ?_
  refine g_getr (j := 3) dX0_holderOf_9 gc0 rfl (by decide) rfl (by decide) fl_B_9 ?_
  refine g_iload_n dX0_holderOf_12 rfl ?_
  refine g_iald_n dX0_holderOf_13 (by first | rfl | assumption) (by first | decide | assumption) (by omega) (by omega) ?_
  try simp (disch := omega) only [hB.ho]
  refine g_goto 18 dX0_holderOf_14 (by decide) ?_
  refine g_ireturn dX0_holderOf_18 rfl (by first | rfl | exact nar_bI _) ?_
  exact h
theorem SB_holderOfF {d : Nat} {M : Mm} {S : BS} {Q : Po} (hB : BK M S) {x : Int32} (he : inR x (S 1 0 0) = false) (h : Q M (some (.int (-1)))) : Call (d + 2) mB_holderOf [.ref 1, .int x] M Q := by
  refine Call_of (m := mB_holderOf) [some (.ref 1), some (.int x)] rfl (fun G => Nat.le_of_ble_eq_true rfl) (fun G => rfl) ?_
  refine g_aload_n dX0_holderOf_0 rfl ?_
  refine g_iload_n dX0_holderOf_1 rfl ?_
  refine g_call1 dX0_holderOf_2 clB_isDuty ml_B_105 gc0 rfl rfl (by decide) (Nat.le_of_ble_eq_true rfl) ?_
  refine SB_isDuty hB x ?_
  refine g_if_eq_b 17 dX0_holderOf_5 (by decide) (fun c5 => ?_) (fun c5 => ?_)
  · refine g_iconst ((-1)) dX0_holderOf_17 ki_m1 ?_
    refine g_ireturn dX0_holderOf_18 rfl (by first | rfl | exact nar_bI _) ?_
    exact h
  · rw [he] at c5; cases c5
theorem SB_dutyAt {d : Nat} {M : Mm} {S : BS} {Q : Po} (hB : BK M S) {e : Nat} (he : e < S 1 0 0) (h : Q M (some (.int (nI (sd S e))))) : Call (d + 2) mB_dutyAt [.ref 1, .int (nI e)] M Q := by
  have hw2 := hB.wf.nd
  refine Call_of (m := mB_dutyAt) [some (.ref 1), some (.int (nI e))] rfl (fun G => Nat.le_of_ble_eq_true rfl) (fun G => rfl) ?_
  refine g_aload_n dX0_dutyAt_0 rfl ?_
  refine g_iload_n dX0_dutyAt_1 rfl ?_
  refine g_call1 dX0_dutyAt_2 clB_isDuty ml_B_105 gc0 rfl rfl (by decide) (Nat.le_of_ble_eq_true rfl) ?_
  refine SB_isDutyT hB he ?_
  refine g_if_eq_tt 17 dX0_dutyAt_5 (by decide) ?_
  refine g_aload_n dX0_dutyAt_8 rfl ?_
  refine g_getr (j := 13) dX0_dutyAt_9 gc0 rfl (by decide) rfl (by decide) fl_B_43 ?_
  refine g_iload_n dX0_dutyAt_12 rfl ?_
  refine g_iald_n dX0_dutyAt_13 (by first | rfl | assumption) (by first | decide | assumption) (by omega) (by omega) ?_
  try simp (disch := omega) only [hB.st]
  refine g_goto 18 dX0_dutyAt_14 (by decide) ?_
  refine g_ireturn dX0_dutyAt_18 rfl (by first | rfl | exact nar_bI _) ?_
  exact h
theorem SB_dutyAtF {d : Nat} {M : Mm} {S : BS} {Q : Po} (hB : BK M S) {x : Int32} (he : inR x (S 1 0 0) = false) (h : Q M (some (.int (-1)))) : Call (d + 2) mB_dutyAt [.ref 1, .int x] M Q := by
  refine Call_of (m := mB_dutyAt) [some (.ref 1), some (.int x)] rfl (fun G => Nat.le_of_ble_eq_true rfl) (fun G => rfl) ?_
  refine g_aload_n dX0_dutyAt_0 rfl ?_
  refine g_iload_n dX0_dutyAt_1 rfl ?_
  refine g_call1 dX0_dutyAt_2 clB_isDuty ml_B_105 gc0 rfl rfl (by decide) (Nat.le_of_ble_eq_true rfl) ?_
  refine SB_isDuty hB x ?_
  refine g_if_eq_b 17 dX0_dutyAt_5 (by decide) (fun c5 => ?_) (fun c5 => ?_)
  · refine g_iconst ((-1)) dX0_dutyAt_17 ki_m1 ?_
    refine g_ireturn dX0_dutyAt_18 rfl (by first | rfl | exact nar_bI _) ?_
    exact h
  · rw [he] at c5; cases c5
theorem pos_le (f dyf : Nat → Nat) (v : Nat) : ∀ n, pos f dyf v n ≤ n
  | 0 => Nat.le_refl 0
  | n + 1 => by
    have := pos_le f dyf v n
    rw [pos]
    split <;> omega
theorem sdF_lt (dyf : Nat → Nat) : ∀ n k, k < n → sdF dyf n k < n := by
  intro n
  induction n with
  | zero => intro k h; omega
  | succ n ih =>
    intro k hk
    have hp := pos_le (sdF dyf n) dyf (dyf n) n
    rw [sdF]
    unfold insF
    split
    · have := ih k (by omega); omega
    · split
      · omega
      · have := ih (k - 1) (by omega); omega
theorem sd_lt {S : BS} {k : Nat} (h : k < S 1 0 0) : sd S k < S 1 0 0 := sdF_lt _ _ _ h
theorem sdF_onto (dyf : Nat → Nat) : ∀ n d, d < n → ∃ k, k < n ∧ sdF dyf n k = d := by
  intro n
  induction n with
  | zero => intro d h; omega
  | succ n ih =>
    intro d hd
    have hp := pos_le (sdF dyf n) dyf (dyf n) n
    rcases Nat.lt_or_ge d n with q | q
    · obtain ⟨k, h1, h2⟩ := ih d q
      by_cases hk : k < pos (sdF dyf n) dyf (dyf n) n
      · exact ⟨k, by omega, by rw [sdF]; unfold insF; rw [if_pos hk]; exact h2⟩
      · exact ⟨k + 1, by omega, by rw [sdF]; unfold insF; rw [if_neg (by omega), if_neg (by omega)]; exact h2⟩
    · refine ⟨pos (sdF dyf n) dyf (dyf n) n, by omega, ?_⟩
      rw [sdF]
      unfold insF
      rw [if_neg (by omega), if_pos rfl]
      omega
theorem first_of {P : Nat → Prop} : ∀ k, P k → ∃ j, j ≤ k ∧ P j ∧ ∀ i, i < j → ¬ P i := by
  intro k
  induction k using Nat.strongRecOn with
  | ind k ih =>
    intro hk
    by_cases h : ∃ i, i < k ∧ P i
    · obtain ⟨i, h1, h2⟩ := h
      obtain ⟨j, h3, h4, h5⟩ := ih i h1 h2
      exact ⟨j, by omega, h4, h5⟩
    · exact ⟨k, Nat.le_refl k, hk, fun i hi hp => h ⟨i, hi, hp⟩⟩
theorem SB_dayAt {d : Nat} {M : Mm} {S : BS} {Q : Po} (hB : BK M S) {e : Nat} (he : e < S 1 0 0) (h : Q M (some (.int (nI (S 10 (sd S e) 0))))) : Call (d + 3) mB_dayAt [.ref 1, .int (nI e)] M Q := by
  have hw2 := hB.wf.nd
  refine Call_of (m := mB_dayAt) [some (.ref 1), some (.int (nI e))] rfl (fun G => Nat.le_of_ble_eq_true rfl) (fun G => rfl) ?_
  refine g_aload_n dX0_dayAt_0 rfl ?_
  refine g_aload_n dX0_dayAt_1 rfl ?_
  refine g_iload_n dX0_dayAt_2 rfl ?_
  refine g_call1 dX0_dayAt_3 clB_dutyAt ml_B_115 gc0 rfl rfl (by decide) (Nat.le_of_ble_eq_true rfl) ?_
  refine SB_dutyAt hB he ?_
  refine g_call1 dX0_dayAt_6 clB_dayOf ml_B_118 gc0 rfl rfl (by decide) (Nat.le_of_ble_eq_true rfl) ?_
  refine SB_dayOf hB (sd_lt he) ?_
  refine g_ireturn dX0_dayAt_9 rfl (by first | rfl | exact nar_bI _) ?_
  exact h
theorem SB_placeOf {d : Nat} {M : Mm} {S : BS} {Q : Po} (hB : BK M S) {e k : Nat} (hk : k < S 1 0 0) (e1 : sd S k = e) (e2 : ∀ j, j < k → sd S j ≠ e) (h : Q M (some (.int (nI k)))) : Call (d + 3) mB_placeOf [.ref 1, .int (nI e)] M Q := by
  have hw2 := hB.wf.nd
  have he : e < S 1 0 0 := by rw [← e1]; exact sd_lt hk
  refine Call_of (m := mB_placeOf) [some (.ref 1), some (.int (nI e)), none] rfl (fun G => Nat.le_of_ble_eq_true rfl) (fun G => rfl) ?_
  refine g_iconst (nI 0) dX0_placeOf_0 ki_0 ?_
  refine g_ist3_2 dX0_placeOf_1 (by decide) rfl ?_
  refine loop_up (P := fun i => Go mB_placeOf (d + 3) Q 2 [some (.ref 1), some (.int (nI e)), some (.int (nI i))] [] M) k ?_ 0 (Nat.zero_le _)
  intro i hi ih
  refine g_iload_n dX0_placeOf_2 rfl ?_
  refine g_aload_n dX0_placeOf_3 rfl ?_
  refine g_geti (j := 1) dX0_placeOf_4 gc0 rfl (by decide) rfl (by decide) fl_B_53 ?_
  try simp (disch := omega) only [hB.nd]
  refine g_icmp_ge_n 27 dX0_placeOf_7 (by decide) (by omega) (by omega) (fun c7 => ?_) (fun c7 => ?_)
  · exact absurd c7 (by omega)
  · have hs := sd_lt (S := S) (k := i) (by omega)
    refine g_aload_n dX0_placeOf_10 rfl ?_
    refine g_iload_n dX0_placeOf_11 rfl ?_
    refine g_call1 dX0_placeOf_12 clB_dutyAt ml_B_115 gc0 rfl rfl (by decide) (Nat.le_of_ble_eq_true rfl) ?_
    refine SB_dutyAt hB (by omega) ?_
    refine g_iload_n dX0_placeOf_15 rfl ?_
    refine g_icmp_ne_n 21 dX0_placeOf_16 (by decide) (by omega) (by omega) (fun c16 => ?_) (fun c16 => ?_)
    · first | refine g_incn3_2 dX0_placeOf_21 ki_1 (by decide) rfl ?_ | refine g_incg3_2 (nI 1) dX0_placeOf_21 ki_1 (by decide) rfl ?_
      refine g_goto 2 dX0_placeOf_24 (by decide) ?_
      refine ih ?_
      rcases Nat.lt_or_ge i k with q | q
      · exact q
      · exact absurd (by rw [show i = k by omega]; exact e1) c16
    · refine g_iload_n dX0_placeOf_19 rfl ?_
      refine g_ireturn dX0_placeOf_20 rfl (by first | rfl | exact nar_bI _) ?_
      rcases Nat.lt_or_ge i k with q | q
      · exact absurd c16 (e2 i q)
      · rw [show i = k by omega]; exact h
theorem SB_countOfKind {d : Nat} {M : Mm} {S : BS} {Q : Po} (hB : BK M S) {k : Nat} (hk : k < 4) (h : Q M (some (.int (nI (cnt (fun e => S 11 e 0 == k) (S 1 0 0)))))) : Call (d + 3) mB_countOfKind [.ref 1, .int (nI k)] M Q := by
  have hw2 := hB.wf.nd
  refine Call_of (m := mB_countOfKind) [some (.ref 1), some (.int (nI k)), none, none] rfl (fun G => Nat.le_of_ble_eq_true rfl) (fun G => rfl) ?_
  refine g_iconst (nI 0) dX0_countOfKind_0 ki_0 ?_
  refine g_ist4_2 dX0_countOfKind_1 (by decide) rfl ?_
  refine g_iconst (nI 0) dX0_countOfKind_2 ki_0 ?_
  refine g_ist4_3 dX0_countOfKind_3 (by decide) rfl ?_
  refine loop_up (P := fun i => Go mB_countOfKind (d + 3) Q 4 [some (.ref 1), some (.int (nI k)), some (.int (nI (cnt (fun e => S 11 e 0 == k) i))), some (.int (nI i))] [] M) (S 1 0 0) ?_ 0 (Nat.zero_le _)
  intro i hi ih
  refine g_iload_n dX0_countOfKind_4 rfl ?_
  refine g_aload_n dX0_countOfKind_5 rfl ?_
  refine g_geti (j := 1) dX0_countOfKind_6 gc0 rfl (by decide) rfl (by decide) fl_B_53 ?_
  try simp (disch := omega) only [hB.nd]
  refine g_icmp_ge_n 30 dX0_countOfKind_9 (by decide) (by omega) (by omega) (fun c9 => ?_) (fun c9 => ?_)
  · refine g_iload_n dX0_countOfKind_30 rfl ?_
    refine g_ireturn dX0_countOfKind_31 rfl (by first | rfl | exact nar_bI _) ?_
    rw [show i = S 1 0 0 by omega]; exact h
  · have ih2 := ih (by omega)
    have hdk := hB.wf.dk (d := i) (by omega)
    refine g_aload_n dX0_countOfKind_12 rfl ?_
    refine g_iload_n dX0_countOfKind_13 rfl ?_
    refine g_call1 dX0_countOfKind_14 clB_kindOf ml_B_121 gc0 rfl rfl (by decide) (Nat.le_of_ble_eq_true rfl) ?_
    refine SB_kindOf hB (by omega) ?_
    refine g_iload_n dX0_countOfKind_17 rfl ?_
    refine g_icmp_ne_n 24 dX0_countOfKind_18 (by decide) (by omega) (by omega) (fun c18 => ?_) (fun c18 => ?_)
    · first | refine g_incn4_3 dX0_countOfKind_24 ki_1 (by decide) rfl ?_ | refine g_incg4_3 (nI 1) dX0_countOfKind_24 ki_1 (by decide) rfl ?_
      refine g_goto 4 dX0_countOfKind_27 (by decide) ?_
      rw [cnt_f (by simp [c18])] at ih2; exact ih2
    · first | refine g_incn4_2 dX0_countOfKind_21 ki_1 (by decide) rfl ?_ | refine g_incg4_2 (nI 1) dX0_countOfKind_21 ki_1 (by decide) rfl ?_
      first | refine g_incn4_3 dX0_countOfKind_24 ki_1 (by decide) rfl ?_ | refine g_incg4_3 (nI 1) dX0_countOfKind_24 ki_1 (by decide) rfl ?_
      refine g_goto 4 dX0_countOfKind_27 (by decide) ?_
      rw [cnt_t (by simp [c18])] at ih2; exact ih2
theorem SB_countOpenBy_2 {d : Nat} {M : Mm} {S : BS} {Q : Po} (hB : BK M S) (f : Nat → Nat) (hf : ∀ i, i < S 1 0 0 → M 2 i = hv (f i)) (hf8 : ∀ i, i < S 1 0 0 → f i ≤ 8) {k : Nat} (hk : k < 4) (h : Q M (some (.int (nI (heldF S f 8 k))))) : Call (d + 2) mB_countOpenBy [.ref 1, .ref 2, .int (nI k)] M Q := by
  refine Call_of (m := mB_countOpenBy) [some (.ref 1), some (.ref 2), some (.int (nI k))] rfl (fun G => Nat.le_of_ble_eq_true rfl) (fun G => rfl) ?_
  refine g_aload_n dX0_countOpenBy_0 rfl ?_
  refine g_aload_n dX0_countOpenBy_1 rfl ?_
  refine g_iconst ((-1)) dX0_countOpenBy_2 ki_m1 ?_
  refine g_iload_n dX0_countOpenBy_3 rfl ?_
  refine g_call3 dX0_countOpenBy_4 clB_countHeld ml_B_96 gc0 rfl rfl (by decide) (Nat.le_of_ble_eq_true rfl) ?_
  rw [← hv_8]
  refine SB_countHeld_2 hB f hf hf8 (by omega) hk ?_
  refine g_ireturn dX0_countOpenBy_7 rfl (by first | rfl | exact nar_bI _) ?_
  exact h
theorem SB_countOpenBy_49 {d : Nat} {M : Mm} {S : BS} {Q : Po} (hB : BK M S) (f : Nat → Nat) (hf : ∀ i, i < S 1 0 0 → M 49 i = hv (f i)) (hf8 : ∀ i, i < S 1 0 0 → f i ≤ 8) {k : Nat} (hk : k < 4) (h : Q M (some (.int (nI (heldF S f 8 k))))) : Call (d + 2) mB_countOpenBy [.ref 1, .ref 49, .int (nI k)] M Q := by
  refine Call_of (m := mB_countOpenBy) [some (.ref 1), some (.ref 49), some (.int (nI k))] rfl (fun G => Nat.le_of_ble_eq_true rfl) (fun G => rfl) ?_
  refine g_aload_n dX0_countOpenBy_0 rfl ?_
  refine g_aload_n dX0_countOpenBy_1 rfl ?_
  refine g_iconst ((-1)) dX0_countOpenBy_2 ki_m1 ?_
  refine g_iload_n dX0_countOpenBy_3 rfl ?_
  refine g_call3 dX0_countOpenBy_4 clB_countHeld ml_B_96 gc0 rfl rfl (by decide) (Nat.le_of_ble_eq_true rfl) ?_
  rw [← hv_8]
  refine SB_countHeld_49 hB f hf hf8 (by omega) hk ?_
  refine g_ireturn dX0_countOpenBy_7 rfl (by first | rfl | exact nar_bI _) ?_
  exact h
theorem SB_countOpen {d : Nat} {M : Mm} {S : BS} {Q : Po} (hB : BK M S) (h : Q M (some (.int (nI (heldAll S 8))))) : Call (d + 3) mB_countOpen [.ref 1] M Q := by
  refine Call_of (m := mB_countOpen) [some (.ref 1)] rfl (fun G => Nat.le_of_ble_eq_true rfl) (fun G => rfl) ?_
  refine g_aload_n dX0_countOpen_0 rfl ?_
  refine g_iconst ((-1)) dX0_countOpen_1 ki_m1 ?_
  refine g_call1 dX0_countOpen_2 clB_countHeldBy ml_B_124 gc0 rfl rfl (by decide) (Nat.le_of_ble_eq_true rfl) ?_
  rw [← hv_8]
  refine SB_countHeldBy hB (by omega) ?_
  refine g_ireturn dX0_countOpen_5 rfl (by first | rfl | exact nar_bI _) ?_
  exact h
def daysN (S : BS) : Nat := cnt (fun k => decide (k = 0 ∨ S 10 (sd S k) 0 ≠ S 10 (sd S (k - 1)) 0)) (S 1 0 0)
theorem SB_countDays {d : Nat} {M : Mm} {S : BS} {Q : Po} (hB : BK M S) (h : Q M (some (.int (nI (daysN S))))) : Call (d + 4) mB_countDays [.ref 1] M Q := by
  have hw2 := hB.wf.nd
  refine Call_of (m := mB_countDays) [some (.ref 1), none, none] rfl (fun G => Nat.le_of_ble_eq_true rfl) (fun G => rfl) ?_
  refine g_iconst (nI 0) dX0_countDays_0 ki_0 ?_
  refine g_ist3_1 dX0_countDays_1 (by decide) rfl ?_
  refine g_iconst (nI 0) dX0_countDays_2 ki_0 ?_
  refine g_ist3_2 dX0_countDays_3 (by decide) rfl ?_
  refine loop_up (P := fun i => Go mB_countDays (d + 4) Q 4 [some (.ref 1), some (.int (nI (cnt (fun k => decide (k = 0 ∨ S 10 (sd S k) 0 ≠ S 10 (sd S (k - 1)) 0)) i))), some (.int (nI i))] [] M) (S 1 0 0) ?_ 0 (Nat.zero_le _)
  intro i hi ih
  refine g_iload_n dX0_countDays_4 rfl ?_
  refine g_aload_n dX0_countDays_5 rfl ?_
  refine g_geti (j := 1) dX0_countDays_6 gc0 rfl (by decide) rfl (by decide) fl_B_53 ?_
  try simp (disch := omega) only [hB.nd]
  refine g_icmp_ge_n 40 dX0_countDays_9 (by decide) (by omega) (by omega) (fun c9 => ?_) (fun c9 => ?_)
  · refine g_iload_n dX0_countDays_40 rfl ?_
    refine g_ireturn dX0_countDays_41 rfl (by first | rfl | exact nar_bI _) ?_
    rw [show i = S 1 0 0 by omega]; exact h
  · have ih2 := ih (by omega)
    have hs := sd_lt (S := S) (k := i) (by omega)
    have hs2 := hB.wf.dk (d := sd S i) (by omega)
    refine g_iload_n dX0_countDays_12 rfl ?_
    refine g_if_eq_n 31 dX0_countDays_13 (by decide) (by omega) (fun c13 => ?_) (fun c13 => ?_)
    · first | refine g_incn3_1 dX0_countDays_31 ki_1 (by decide) rfl ?_ | refine g_incg3_1 (nI 1) dX0_countDays_31 ki_1 (by decide) rfl ?_
      first | refine g_incn3_2 dX0_countDays_34 ki_1 (by decide) rfl ?_ | refine g_incg3_2 (nI 1) dX0_countDays_34 ki_1 (by decide) rfl ?_
      refine g_goto 4 dX0_countDays_37 (by decide) ?_
      rw [cnt_t (by simp [c13])] at ih2; exact ih2
    · have hs3 := sd_lt (S := S) (k := i - 1) (by omega)
      have hs4 := hB.wf.dk (d := sd S (i - 1)) (by omega)
      refine g_aload_n dX0_countDays_16 rfl ?_
      refine g_iload_n dX0_countDays_17 rfl ?_
      refine g_call1 dX0_countDays_18 clB_dayAt ml_B_112 gc0 rfl rfl (by decide) (Nat.le_of_ble_eq_true rfl) ?_
      refine SB_dayAt hB (by omega) ?_
      refine g_aload_n dX0_countDays_21 rfl ?_
      refine g_iload_n dX0_countDays_22 rfl ?_
      refine g_iconst (nI 1) dX0_countDays_23 ki_1 ?_
      first | refine g_isub_n dX0_countDays_24 (by omega) ?_ | refine g_isub dX0_countDays_24 ?_
      refine g_call1 dX0_countDays_25 clB_dayAt ml_B_112 gc0 rfl rfl (by decide) (Nat.le_of_ble_eq_true rfl) ?_
      refine SB_dayAt hB (by omega) ?_
      refine g_icmp_eq_n 34 dX0_countDays_28 (by decide) (by omega) (by omega) (fun c28 => ?_) (fun c28 => ?_)
      · first | refine g_incn3_2 dX0_countDays_34 ki_1 (by decide) rfl ?_ | refine g_incg3_2 (nI 1) dX0_countDays_34 ki_1 (by decide) rfl ?_
        refine g_goto 4 dX0_countDays_37 (by decide) ?_
        rw [cnt_f (by simp only [c13, false_or, decide_eq_false_iff_not, Decidable.not_not]; exact c28)] at ih2; exact ih2
      · first | refine g_incn3_1 dX0_countDays_31 ki_1 (by decide) rfl ?_ | refine g_incg3_1 (nI 1) dX0_countDays_31 ki_1 (by decide) rfl ?_
        first | refine g_incn3_2 dX0_countDays_34 ki_1 (by decide) rfl ?_ | refine g_incg3_2 (nI 1) dX0_countDays_34 ki_1 (by decide) rfl ?_
        refine g_goto 4 dX0_countDays_37 (by decide) ?_
        rw [cnt_t (by simp only [c13, false_or, decide_eq_true_eq]; exact c28)] at ih2; exact ih2
def closeB (S : BS) (a b : Nat) : Bool := decide (S 12 a 0 ≠ 8 ∧ S 12 a 0 = S 12 b 0 ∧ (if S 10 b 0 ≤ S 10 a 0 then S 10 a 0 - S 10 b 0 else S 10 b 0 - S 10 a 0) ≤ 1)
theorem SB_areClose {d : Nat} {M : Mm} {S : BS} {Q : Po} (hB : BK M S) {a b : Nat} (ha : a < S 1 0 0) (hb : b < S 1 0 0) (h : Q M (some (.int (bI (closeB S a b))))) : Call (d + 3) mB_areClose [.ref 1, .int (nI a), .int (nI b)] M Q := by
  have hw2 := hB.wf.nd
  obtain ⟨w1, -, w2⟩ := hB.wf.dk (d := a) (by omega)
  obtain ⟨w3, -, w4⟩ := hB.wf.dk (d := b) (by omega)
  unfold closeB at h
  refine Call_of (m := mB_areClose) [some (.ref 1), some (.int (nI a)), some (.int (nI b)), none] rfl (fun G => Nat.le_of_ble_eq_true rfl) (fun G => rfl) ?_
  refine g_aload_n dX0_areClose_0 rfl ?_
  refine g_iload_n dX0_areClose_1 rfl ?_
  refine g_call1 dX0_areClose_2 clB_holderOf ml_B_71 gc0 rfl rfl (by decide) (Nat.le_of_ble_eq_true rfl) ?_
  refine SB_holderOf hB ha ?_
  refine g_ist4_3 dX0_areClose_5 (by decide) rfl ?_
  refine g_iload_n dX0_areClose_6 rfl ?_
  refine g_iconst ((-1)) dX0_areClose_7 ki_m1 ?_
  refine g_icmp_eq 42 dX0_areClose_8 (by decide) (fun c8 => ?_) (fun c8 => ?_)
  · refine g_iconst (nI 0) dX0_areClose_42 ki_0 ?_
    refine g_ireturn dX0_areClose_43 rfl (by first | rfl | exact nar_bI _) ?_
    rw [hv_open _ w2] at c8
    exact qb_f h (decide_eq_false (by omega))
  · skip
    refine g_iload_n dX0_areClose_11 rfl ?_
    refine g_aload_n dX0_areClose_12 rfl ?_
    refine g_iload_n dX0_areClose_13 rfl ?_
    refine g_call1 dX0_areClose_14 clB_holderOf ml_B_71 gc0 rfl rfl (by decide) (Nat.le_of_ble_eq_true rfl) ?_
    refine SB_holderOf hB hb ?_
    refine g_icmp_ne 42 dX0_areClose_17 (by decide) (fun c17 => ?_) (fun c17 => ?_)
    · refine g_iconst (nI 0) dX0_areClose_42 ki_0 ?_
      refine g_ireturn dX0_areClose_43 rfl (by first | rfl | exact nar_bI _) ?_
      rw [hv_open _ w2] at c8
      rw [hv_inj w2 w4] at c17
      exact qb_f h (decide_eq_false (fun q => c17 q.2.1))
    · rw [hv_open _ w2] at c8
      rw [hv_inj w2 w4] at c17
      refine g_aload_n dX0_areClose_20 rfl ?_
      refine g_iload_n dX0_areClose_21 rfl ?_
      refine g_call1 dX0_areClose_22 clB_dayOf ml_B_118 gc0 rfl rfl (by decide) (Nat.le_of_ble_eq_true rfl) ?_
      refine SB_dayOf hB ha ?_
      refine g_aload_n dX0_areClose_25 rfl ?_
      refine g_iload_n dX0_areClose_26 rfl ?_
      refine g_call1 dX0_areClose_27 clB_dayOf ml_B_118 gc0 rfl rfl (by decide) (Nat.le_of_ble_eq_true rfl) ?_
      refine SB_dayOf hB hb ?_
      first | refine g_isub_n dX0_areClose_30 (by omega) ?_ | refine g_isub dX0_areClose_30 ?_
      refine g_mabs dX0_areClose_31 mm_B_127 ms_abs ti_java_lang_Math mc_abs (Nat.le_of_ble_eq_true rfl) ?_
      rw [nI_abs (by omega) (by omega)]
      have hle : (if S 10 b 0 ≤ S 10 a 0 then S 10 a 0 - S 10 b 0 else S 10 b 0 - S 10 a 0) ≤ 365 := by split <;> omega
      refine g_iconst (nI 1) dX0_areClose_34 ki_1 ?_
      refine g_icmp_gt_n 42 dX0_areClose_35 (by decide) (by omega) (by omega) (fun c35 => ?_) (fun c35 => ?_)
      · refine g_iconst (nI 0) dX0_areClose_42 ki_0 ?_
        refine g_ireturn dX0_areClose_43 rfl (by first | rfl | exact nar_bI _) ?_
        exact qb_f h (decide_eq_false (fun q => by have := q.2.2; omega))
      · refine g_iconst (nI 1) dX0_areClose_38 ki_1 ?_
        refine g_goto 43 dX0_areClose_39 (by decide) ?_
        refine g_ireturn dX0_areClose_43 rfl (by first | rfl | exact nar_bI _) ?_
        exact qb_t h (decide_eq_true ⟨c8, c17, by omega⟩)
def dlv (S : BS) (q d : Nat) : Nat := if q < S 0 0 0 then S 13 q d else 0
theorem SB_dislikeOf {d : Nat} {M : Mm} {S : BS} {Q : Po} (hB : BK M S) {q e : Nat} (hq : q ≤ 8) (he : e < S 1 0 0) (h : Q M (some (.int (nI (dlv S q e))))) : Call (d + 2) mB_dislikeOf [.ref 1, .int (hv q), .int (nI e)] M Q := by
  have hw := hB.wf.np
  have hw2 := hB.wf.nd
  unfold dlv at h
  refine Call_of (m := mB_dislikeOf) [some (.ref 1), some (.int (hv q)), some (.int (nI e))] rfl (fun G => Nat.le_of_ble_eq_true rfl) (fun G => rfl) ?_
  refine g_aload_n dX0_dislikeOf_0 rfl ?_
  refine g_iload_n dX0_dislikeOf_1 rfl ?_
  refine g_call1 dX0_dislikeOf_2 clB_isOne ml_B_64 gc0 rfl rfl (by decide) (Nat.le_of_ble_eq_true rfl) ?_
  refine SB_isOne hB _ ?_
  rw [inR_hv hq hw]
  refine g_if_eq_b 30 dX0_dislikeOf_5 (by decide) (fun c5 => ?_) (fun c5 => ?_)
  · refine g_iconst (nI 0) dX0_dislikeOf_30 ki_0 ?_
    refine g_ireturn dX0_dislikeOf_31 rfl (by first | rfl | exact nar_bI _) ?_
    rw [if_neg (of_decide_eq_false c5)] at h; exact h
  · have hqn := of_decide_eq_true c5
    rw [hv_p (p := q) (by omega)]
    rw [if_pos hqn] at h
    refine g_aload_n dX0_dislikeOf_8 rfl ?_
    refine g_iload_n dX0_dislikeOf_9 rfl ?_
    refine g_call1 dX0_dislikeOf_10 clB_isDuty ml_B_105 gc0 rfl rfl (by decide) (Nat.le_of_ble_eq_true rfl) ?_
    refine SB_isDutyT hB he ?_
    refine g_if_eq_tt 30 dX0_dislikeOf_13 (by decide) ?_
    refine g_aload_n dX0_dislikeOf_16 rfl ?_
    refine g_getr (j := 14) dX0_dislikeOf_17 gc0 rfl (by decide) rfl (by decide) fl_B_46 ?_
    refine g_iload_n dX0_dislikeOf_20 rfl ?_
    refine g_bipush (nI 24) dX0_dislikeOf_21 kb_24 ?_
    first | refine g_imul_n dX0_dislikeOf_23 ?_ | refine g_imul dX0_dislikeOf_23 ?_
    refine g_iload_n dX0_dislikeOf_24 rfl ?_
    first | refine g_iadd_n dX0_dislikeOf_25 ?_ | refine g_iadd dX0_dislikeOf_25 ?_
    refine g_iald_n dX0_dislikeOf_26 (by first | rfl | assumption) (by first | decide | assumption) (by omega) (by omega) ?_
    try simp (disch := omega) only [hB.dl]
    refine g_goto 31 dX0_dislikeOf_27 (by decide) ?_
    refine g_ireturn dX0_dislikeOf_31 rfl (by first | rfl | exact nar_bI _) ?_
    exact h
theorem SB_dislikeP {d : Nat} {M : Mm} {S : BS} {Q : Po} (hB : BK M S) {p e : Nat} (hp : p < S 0 0 0) (he : e < S 1 0 0) (h : Q M (some (.int (nI (S 13 p e))))) : Call (d + 2) mB_dislikeOf [.ref 1, .int (nI p), .int (nI e)] M Q := by
  have hw := hB.wf.np
  rw [← hv_p (p := p) (by omega)]
  refine SB_dislikeOf hB (by omega) he ?_
  unfold dlv
  rw [if_pos hp]
  exact h
/-! BOOK: what is written -/
theorem mset_at (M : Mm) (k j : Nat) (v : Int32) : mset M k j v k j = v := by rw [mset_same]; exact if_pos rfl
theorem mset_off {M : Mm} {k j a b : Nat} {v : Int32} (h : ¬ (a = k ∧ b = j)) : mset M k j v a b = M a b := by
  unfold mset
  split
  · rename_i e
    subst e
    unfold upd
    rw [if_neg (fun e => h ⟨rfl, e⟩)]
  · rfl
theorem up_at (S : BS) (f i j v : Nat) : up S f i j v f i j = v := if_pos ⟨rfl, rfl, rfl⟩
theorem up_off {S : BS} {f i j v a b c : Nat} (h : ¬ (a = f ∧ b = i ∧ c = j)) : up S f i j v a b c = S a b c := if_neg h
/-- the places that a state speaks of -/
def relB (S : BS) (k j : Nat) : Prop := (k = 1 ∧ j < 3) ∨ (k = 2 ∧ j < S 1 0 0) ∨ (k = 3 ∧ j < S 0 0 0) ∨ (k = 4 ∧ j < 8) ∨ (k = 5 ∧ j < S 0 0 0 * 4) ∨ (k = 6 ∧ j < S 0 0 0) ∨ (k = 7 ∧ j < S 0 0 0 * 8) ∨ (k = 8 ∧ j < S 0 0 0 * 8) ∨ (k = 9 ∧ j < S 0 0 0 * 8) ∨ (k = 10 ∧ j < S 1 0 0) ∨ (k = 11 ∧ j < S 1 0 0) ∨ (k = 12 ∧ j < S 1 0 0) ∨ (k = 13 ∧ j < S 0 0 0 * 24)
theorem relB_1 {S : BS} {j : Nat} (h : j < 3) : relB S 1 j := Or.inl ⟨rfl, h⟩
theorem relB_2 {S : BS} {j : Nat} (h : j < S 1 0 0) : relB S 2 j := Or.inr (Or.inl ⟨rfl, h⟩)
theorem relB_3 {S : BS} {j : Nat} (h : j < S 0 0 0) : relB S 3 j := Or.inr (Or.inr (Or.inl ⟨rfl, h⟩))
theorem relB_4 {S : BS} {j : Nat} (h : j < 8) : relB S 4 j := Or.inr (Or.inr (Or.inr (Or.inl ⟨rfl, h⟩)))
theorem relB_5 {S : BS} {j : Nat} (h : j < S 0 0 0 * 4) : relB S 5 j := Or.inr (Or.inr (Or.inr (Or.inr (Or.inl ⟨rfl, h⟩))))
theorem relB_6 {S : BS} {j : Nat} (h : j < S 0 0 0) : relB S 6 j := Or.inr (Or.inr (Or.inr (Or.inr (Or.inr (Or.inl ⟨rfl, h⟩)))))
theorem relB_7 {S : BS} {j : Nat} (h : j < S 0 0 0 * 8) : relB S 7 j := Or.inr (Or.inr (Or.inr (Or.inr (Or.inr (Or.inr (Or.inl ⟨rfl, h⟩))))))
theorem relB_8 {S : BS} {j : Nat} (h : j < S 0 0 0 * 8) : relB S 8 j := Or.inr (Or.inr (Or.inr (Or.inr (Or.inr (Or.inr (Or.inr (Or.inl ⟨rfl, h⟩)))))))
theorem relB_9 {S : BS} {j : Nat} (h : j < S 0 0 0 * 8) : relB S 9 j := Or.inr (Or.inr (Or.inr (Or.inr (Or.inr (Or.inr (Or.inr (Or.inr (Or.inl ⟨rfl, h⟩))))))))
theorem relB_10 {S : BS} {j : Nat} (h : j < S 1 0 0) : relB S 10 j := Or.inr (Or.inr (Or.inr (Or.inr (Or.inr (Or.inr (Or.inr (Or.inr (Or.inr (Or.inl ⟨rfl, h⟩)))))))))
theorem relB_11 {S : BS} {j : Nat} (h : j < S 1 0 0) : relB S 11 j := Or.inr (Or.inr (Or.inr (Or.inr (Or.inr (Or.inr (Or.inr (Or.inr (Or.inr (Or.inr (Or.inl ⟨rfl, h⟩))))))))))
theorem relB_12 {S : BS} {j : Nat} (h : j < S 1 0 0) : relB S 12 j := Or.inr (Or.inr (Or.inr (Or.inr (Or.inr (Or.inr (Or.inr (Or.inr (Or.inr (Or.inr (Or.inr (Or.inl ⟨rfl, h⟩)))))))))))
theorem relB_13 {S : BS} {j : Nat} (h : j < S 0 0 0 * 24) : relB S 13 j := Or.inr (Or.inr (Or.inr (Or.inr (Or.inr (Or.inr (Or.inr (Or.inr (Or.inr (Or.inr (Or.inr (Or.inr ⟨rfl, h⟩)))))))))))
theorem BK.keep {M M' : Mm} {S : BS} (hB : BK M S) (h : ∀ k j, relB S k j → M' k j = M k j) : BK M' S := by
  have hnr := fun p (hp : p < S 0 0 0) => hB.wf.nr (p := p) (by have := hB.wf.np; omega)
  unfold relB at h
  refine ⟨hB.wf, ?_, ?_, ?_, fun d hd => ?_, fun p hp => ?_, fun p hp => ?_, fun p k hp hk => ?_, fun p hp => ?_, fun p r hp hr => ?_, fun d hd => ?_, fun p d hp hd => ?_⟩
  · rw [h 1 0 (by omega)]; exact hB.np
  · rw [h 1 1 (by omega)]; exact hB.nd
  · rw [h 1 2 (by omega)]; exact hB.yr
  · rw [h 2 d (by omega)]; exact hB.ho hd
  · rw [h 3 p (by omega)]; exact hB.rk hp
  · rw [h 4 p (by omega)]; exact hB.here hp
  · rw [h 5 _ (by omega)]; exact hB.ps hp hk
  · rw [h 6 p (by omega)]; exact hB.nr hp
  · have := hnr p hp
    have hr2 : r < S 6 p 0 := hr
    refine ⟨?_, ?_, fun h1 => ?_⟩
    · rw [h 7 _ (by omega)]; exact hB.rs hp hr
    · rw [h 8 _ (by omega)]; exact hB.ra hp hr
    · rw [h 9 _ (by omega)]; exact hB.rb hp hr h1
  · refine ⟨?_, ?_, ?_⟩
    · rw [h 10 d (by omega)]; exact hB.dy hd
    · rw [h 11 d (by omega)]; exact hB.kd hd
    · rw [h 12 d (by omega)]; exact hB.st hd
  · rw [h 13 _ (by omega)]; exact hB.dl hp hd
theorem BK.eqO {L : List Nat} {M M' : Mm} {S : BS} (hB : BK M S) (h : EqO L M M') (hL : ∀ k ∈ L, k = 0 ∨ 14 ≤ k) : BK M' S := by
  refine hB.keep (fun k j hr => ?_)
  have hk : k ∉ L := fun e => by have := hL k e; unfold relB at hr; omega
  rw [h k hk]
/-- other holders -/
theorem BK.hol {M M' : Mm} {S S' : BS} (hB : BK M S) (hM : ∀ k, k ≠ 2 → M' k = M k) (hS : ∀ a, a ≠ 12 → S' a = S a) (h2 : ∀ d, d < S 1 0 0 → M' 2 d = hv (S' 12 d 0)) (h8 : ∀ d, d < 24 → S' 12 d 0 ≤ 8) : BK M' S' := by
  have h0 := hS 0 (by decide)
  have h1 := hS 1 (by decide)
  have h10 := hS 10 (by decide)
  have h4 := hS 4 (by decide)
  have hsd : ∀ k, sd S' k = sd S k := fun k => by simp only [sd, h1, h10]
  obtain ⟨w, a1, a2, a3, a4, a5, a6, a7, a8, a9, a10, a11⟩ := hB
  refine ⟨?_, ?_, ?_, ?_, ?_, ?_, ?_, ?_, ?_, ?_, ?_, ?_⟩
  · obtain ⟨b1, b2, b3, b4, b5, b6, b7, b8, b9, b10, b11⟩ := w
    simp only [WF, h0, h1, h4, hS 3 (by decide), hS 5 (by decide), hS 6 (by decide), hS 7 (by decide), hS 8 (by decide), hS 9 (by decide), h10, hS 11 (by decide), hS 13 (by decide)]
    exact ⟨b1, b2, b3, b4, b5, b6, b7, b8, fun d hd => ⟨(b9 d hd).1, (b9 d hd).2.1, h8 d hd⟩, b10, b11⟩
  · rw [hM 1 (by decide)]; simp only [h0]; exact a1
  · rw [hM 1 (by decide)]; simp only [h1]; exact a2
  · rw [hM 1 (by decide)]; simp only [hS 2 (by decide)]; exact a3
  · simp only [h1]; exact h2
  · rw [hM 3 (by decide)]; simp only [h0, hS 3 (by decide)]; exact a5
  · rw [hM 4 (by decide)]; simp only [hr, h4]; exact a6
  · rw [hM 5 (by decide)]; simp only [h0, hS 5 (by decide)]; exact a7
  · rw [hM 6 (by decide)]; simp only [h0, hS 6 (by decide)]; exact a8
  · rw [hM 7 (by decide), hM 8 (by decide), hM 9 (by decide)]; simp only [h0, hS 6 (by decide), hS 7 (by decide), hS 8 (by decide), hS 9 (by decide)]; exact a9
  · rw [hM 10 (by decide), hM 11 (by decide), hM 12 (by decide)]; simp only [h1, h10, hS 11 (by decide), hsd]; exact a10
  · rw [hM 13 (by decide)]; simp only [h0, hS 13 (by decide)]; exact a11
theorem BK.hol1 {M : Mm} {S : BS} (hB : BK M S) {e q : Nat} (he : e < S 1 0 0) (hq : q ≤ 8) : BK (mset M 2 e (hv q)) (up S 12 e 0 q) := by
  have hw2 := hB.wf.nd
  refine hB.hol (fun k hk => mset_ne hk) (fun a ha => ?_) (fun d hd => ?_) (fun d hd => ?_)
  · funext b c; exact up_off (fun q => ha q.1)
  · by_cases e2 : d = e
    · subst e2; rw [mset_at, up_at]
    · rw [mset_off (by omega), up_off (by omega)]; exact hB.ho hd
  · by_cases e2 : d = e
    · subst e2; rw [up_at]; exact hq
    · rw [up_off (by omega)]; exact (hB.wf.dk hd).2.2
theorem SB_putHolder {d : Nat} {M : Mm} {S : BS} {Q : Po} (hB : BK M S) {e : Nat} {x : Int32} (he : e < S 1 0 0) (h : Q (mset M 2 e x) none) : Call (d + 2) mB_putHolder [.ref 1, .int (nI e), .int x] M Q := by
  have hw2 := hB.wf.nd
  refine Call_of (m := mB_putHolder) [some (.ref 1), some (.int (nI e)), some (.int x)] rfl (fun G => Nat.le_of_ble_eq_true rfl) (fun G => rfl) ?_
  refine g_aload_n dX0_putHolder_0 rfl ?_
  refine g_iload_n dX0_putHolder_1 rfl ?_
  refine g_call1 dX0_putHolder_2 clB_isDuty ml_B_105 gc0 rfl rfl (by decide) (Nat.le_of_ble_eq_true rfl) ?_
  refine SB_isDutyT hB he ?_
  refine g_if_eq_tt 15 dX0_putHolder_5 (by decide) ?_
  refine g_aload_n dX0_putHolder_8 rfl ?_
  refine g_getr (j := 3) dX0_putHolder_9 gc0 rfl (by decide) rfl (by decide) fl_B_9 ?_
  refine g_iload_n dX0_putHolder_12 rfl ?_
  refine g_iload_n dX0_putHolder_13 rfl ?_
  refine g_iast_n dX0_putHolder_14 (by first | rfl | assumption) (by first | decide | assumption) (by omega) (by omega) ?_
  refine g_return dX0_putHolder_15 rfl ?_
  exact h
theorem SB_putPast {d : Nat} {M : Mm} {S : BS} {Q : Po} (hB : BK M S) {p k : Nat} {x : Int32} (hp : p < S 0 0 0) (hk : k < 4) (h : Q (mset M 5 (p * 4 + k) x) none) : Call (d + 2) mB_putPast [.ref 1, .int (nI p), .int (nI k), .int x] M Q := by
  have hw2 := hB.wf.np
  refine Call_of (m := mB_putPast) [some (.ref 1), some (.int (nI p)), some (.int (nI k)), some (.int x)] rfl (fun G => Nat.le_of_ble_eq_true rfl) (fun G => rfl) ?_
  refine g_aload_n dX0_putPast_0 rfl ?_
  refine g_iload_n dX0_putPast_1 rfl ?_
  refine g_call1 dX0_putPast_2 clB_isOne ml_B_64 gc0 rfl rfl (by decide) (Nat.le_of_ble_eq_true rfl) ?_
  refine SB_isOneT hB hp ?_
  refine g_if_eq_tt 26 dX0_putPast_5 (by decide) ?_
  refine g_iload_n dX0_putPast_8 rfl ?_
  refine g_calln1 (host := "FairTurns") dX0_putPast_9 clF_isKind (by decide) (Nat.le_of_ble_eq_true rfl) ?_
  refine SF_isKindT hk ?_
  refine g_if_eq_tt 26 dX0_putPast_12 (by decide) ?_
  refine g_aload_n dX0_putPast_15 rfl ?_
  refine g_getr (j := 6) dX0_putPast_16 gc0 rfl (by decide) rfl (by decide) fl_B_22 ?_
  refine g_iload_n dX0_putPast_19 rfl ?_
  refine g_iconst (nI 4) dX0_putPast_20 ki_4 ?_
  first | refine g_imul_n dX0_putPast_21 ?_ | refine g_imul dX0_putPast_21 ?_
  refine g_iload_n dX0_putPast_22 rfl ?_
  first | refine g_iadd_n dX0_putPast_23 ?_ | refine g_iadd dX0_putPast_23 ?_
  refine g_iload_n dX0_putPast_24 rfl ?_
  refine g_iast_n dX0_putPast_25 (by first | rfl | assumption) (by first | decide | assumption) (by omega) (by omega) ?_
  refine g_return dX0_putPast_26 rfl ?_
  exact h
theorem SB_putDislike {d : Nat} {M : Mm} {S : BS} {Q : Po} (hB : BK M S) {p e : Nat} {x : Int32} (hp : p < S 0 0 0) (he : e < S 1 0 0) (h : Q (mset M 13 (p * 24 + e) x) none) : Call (d + 2) mB_putDislike [.ref 1, .int (nI p), .int (nI e), .int x] M Q := by
  have hw := hB.wf.np
  have hw2 := hB.wf.nd
  refine Call_of (m := mB_putDislike) [some (.ref 1), some (.int (nI p)), some (.int (nI e)), some (.int x)] rfl (fun G => Nat.le_of_ble_eq_true rfl) (fun G => rfl) ?_
  refine g_aload_n dX0_putDislike_0 rfl ?_
  refine g_iload_n dX0_putDislike_1 rfl ?_
  refine g_call1 dX0_putDislike_2 clB_isOne ml_B_64 gc0 rfl rfl (by decide) (Nat.le_of_ble_eq_true rfl) ?_
  refine SB_isOneT hB hp ?_
  refine g_if_eq_tt 28 dX0_putDislike_5 (by decide) ?_
  refine g_aload_n dX0_putDislike_8 rfl ?_
  refine g_iload_n dX0_putDislike_9 rfl ?_
  refine g_call1 dX0_putDislike_10 clB_isDuty ml_B_105 gc0 rfl rfl (by decide) (Nat.le_of_ble_eq_true rfl) ?_
  refine SB_isDutyT hB he ?_
  refine g_if_eq_tt 28 dX0_putDislike_13 (by decide) ?_
  refine g_aload_n dX0_putDislike_16 rfl ?_
  refine g_getr (j := 14) dX0_putDislike_17 gc0 rfl (by decide) rfl (by decide) fl_B_46 ?_
  refine g_iload_n dX0_putDislike_20 rfl ?_
  refine g_bipush (nI 24) dX0_putDislike_21 kb_24 ?_
  first | refine g_imul_n dX0_putDislike_23 ?_ | refine g_imul dX0_putDislike_23 ?_
  refine g_iload_n dX0_putDislike_24 rfl ?_
  first | refine g_iadd_n dX0_putDislike_25 ?_ | refine g_iadd dX0_putDislike_25 ?_
  refine g_iload_n dX0_putDislike_26 rfl ?_
  refine g_iast_n dX0_putDislike_27 (by first | rfl | assumption) (by first | decide | assumption) (by omega) (by omega) ?_
  refine g_return dX0_putDislike_28 rfl ?_
  exact h
theorem SB_dropRules {d : Nat} {M : Mm} {S : BS} {Q : Po} (hB : BK M S) {p : Nat} (hp : p < S 0 0 0) (h : Q (mset M 6 p (nI 0)) (some (.int (nI (S 6 p 0))))) : Call (d + 2) mB_dropRules [.ref 1, .int (nI p)] M Q := by
  have hw := hB.wf.np
  refine Call_of (m := mB_dropRules) [some (.ref 1), some (.int (nI p)), none] rfl (fun G => Nat.le_of_ble_eq_true rfl) (fun G => rfl) ?_
  refine g_aload_n dX0_dropRules_0 rfl ?_
  refine g_iload_n dX0_dropRules_1 rfl ?_
  refine g_call1 dX0_dropRules_2 clB_isOne ml_B_64 gc0 rfl rfl (by decide) (Nat.le_of_ble_eq_true rfl) ?_
  refine SB_isOneT hB hp ?_
  refine g_if_ne_tt 10 dX0_dropRules_5 (by decide) ?_
  refine g_aload_n dX0_dropRules_10 rfl ?_
  refine g_getr (j := 7) dX0_dropRules_11 gc0 rfl (by decide) rfl (by decide) fl_B_25 ?_
  refine g_iload_n dX0_dropRules_14 rfl ?_
  refine g_iald_n dX0_dropRules_15 (by first | rfl | assumption) (by first | decide | assumption) (by omega) (by omega) ?_
  try simp (disch := omega) only [hB.nr]
  refine g_ist3_2 dX0_dropRules_16 (by decide) rfl ?_
  refine g_aload_n dX0_dropRules_17 rfl ?_
  refine g_getr (j := 7) dX0_dropRules_18 gc0 rfl (by decide) rfl (by decide) fl_B_25 ?_
  refine g_iload_n dX0_dropRules_21 rfl ?_
  refine g_iconst (nI 0) dX0_dropRules_22 ki_0 ?_
  refine g_iast_n dX0_dropRules_23 (by first | rfl | assumption) (by first | decide | assumption) (by omega) (by omega) ?_
  refine g_iload_n dX0_dropRules_24 rfl ?_
  refine g_ireturn dX0_dropRules_25 rfl (by first | rfl | exact nar_bI _) ?_
  exact h
theorem SB_addRule {d : Nat} {M : Mm} {S : BS} {Q : Po} (hB : BK M S) {p : Nat} {x y z : Int32} (hp : p < S 0 0 0) (hn : S 6 p 0 < 8) (h : Q (mset (mset (mset (mset M 7 (p * 8 + S 6 p 0) x) 8 (p * 8 + S 6 p 0) y) 9 (p * 8 + S 6 p 0) z) 6 p (nI (S 6 p 0 + 1))) none) : Call (d + 3) mB_addRule [.ref 1, .int (nI p), .int x, .int y, .int z] M Q := by
  have hw := hB.wf.np
  refine Call_of (m := mB_addRule) [some (.ref 1), some (.int (nI p)), some (.int x), some (.int y), some (.int z), none, none] rfl (fun G => Nat.le_of_ble_eq_true rfl) (fun G => rfl) ?_
  refine g_aload_n dX0_addRule_0 rfl ?_
  refine g_iload_n dX0_addRule_1 rfl ?_
  refine g_call1 dX0_addRule_2 clB_countRulesOf ml_B_102 gc0 rfl rfl (by decide) (Nat.le_of_ble_eq_true rfl) ?_
  refine SB_countRulesOf hB hp ?_
  refine g_ist7_5 dX0_addRule_5 (by decide) rfl ?_
  refine g_aload_n dX0_addRule_7 rfl ?_
  refine g_iload_n dX0_addRule_8 rfl ?_
  refine g_call1 dX0_addRule_9 clB_isOne ml_B_64 gc0 rfl rfl (by decide) (Nat.le_of_ble_eq_true rfl) ?_
  refine SB_isOneT hB hp ?_
  refine g_if_eq_tt 27 dX0_addRule_12 (by decide) ?_
  refine g_iload dX0_addRule_15 rfl ?_
  refine g_if_lt_n 27 dX0_addRule_17 (by decide) (by omega) ?_
  refine g_iload dX0_addRule_20 rfl ?_
  refine g_bipush (nI 8) dX0_addRule_22 kb_8 ?_
  refine g_icmp_lt_n 28 dX0_addRule_24 (by decide) (by omega) (by omega) (fun c24 => ?_) (fun c24 => ?_)
  · refine g_iload_n dX0_addRule_28 rfl ?_
    refine g_bipush (nI 8) dX0_addRule_29 kb_8 ?_
    first | refine g_imul_n dX0_addRule_31 ?_ | refine g_imul dX0_addRule_31 ?_
    refine g_iload dX0_addRule_32 rfl ?_
    first | refine g_iadd_n dX0_addRule_34 ?_ | refine g_iadd dX0_addRule_34 ?_
    refine g_ist7_6 dX0_addRule_35 (by decide) rfl ?_
    refine g_aload_n dX0_addRule_37 rfl ?_
    refine g_getr (j := 8) dX0_addRule_38 gc0 rfl (by decide) rfl (by decide) fl_B_28 ?_
    refine g_iload dX0_addRule_41 rfl ?_
    refine g_iload_n dX0_addRule_43 rfl ?_
    refine g_iast_n dX0_addRule_44 (by first | rfl | assumption) (by first | decide | assumption) (by omega) (by omega) ?_
    refine g_aload_n dX0_addRule_45 rfl ?_
    refine g_getr (j := 9) dX0_addRule_46 gc0 rfl (by decide) rfl (by decide) fl_B_31 ?_
    refine g_iload dX0_addRule_49 rfl ?_
    refine g_iload_n dX0_addRule_51 rfl ?_
    refine g_iast_n dX0_addRule_52 (by first | rfl | assumption) (by first | decide | assumption) (by omega) (by omega) ?_
    refine g_aload_n dX0_addRule_53 rfl ?_
    refine g_getr (j := 10) dX0_addRule_54 gc0 rfl (by decide) rfl (by decide) fl_B_34 ?_
    refine g_iload dX0_addRule_57 rfl ?_
    refine g_iload dX0_addRule_59 rfl ?_
    refine g_iast_n dX0_addRule_61 (by first | rfl | assumption) (by first | decide | assumption) (by omega) (by omega) ?_
    refine g_aload_n dX0_addRule_62 rfl ?_
    refine g_getr (j := 7) dX0_addRule_63 gc0 rfl (by decide) rfl (by decide) fl_B_25 ?_
    refine g_iload_n dX0_addRule_66 rfl ?_
    refine g_iload dX0_addRule_67 rfl ?_
    refine g_iconst (nI 1) dX0_addRule_69 ki_1 ?_
    first | refine g_iadd_n dX0_addRule_70 ?_ | refine g_iadd dX0_addRule_70 ?_
    refine g_iast_n dX0_addRule_71 (by first | rfl | assumption) (by first | decide | assumption) (by omega) (by omega) ?_
    refine g_return dX0_addRule_72 rfl ?_
    exact h
  · exact absurd c24 (by omega)
/-- what p holds and may not any more is open, of the duties below n -/
def opnI (S : BS) (p n : Nat) : BS := fun a b c => if a = 12 ∧ c = 0 ∧ b < n ∧ S 12 b 0 = p ∧ mayB S p b = false then 8 else S a b c
theorem opnI_hol {M : Mm} {S : BS} (hB : BK M S) {p n : Nat} : ∀ a, a ≠ 12 → opnI S p n a = S a := fun a ha => by
  funext b c
  unfold opnI
  rw [if_neg (fun q => ha q.1)]
theorem SB_openWhat {d : Nat} {M : Mm} {S : BS} {Q : Po} (hB : BK M S) {p : Nat} (hp : p < 8) (h : ∀ M', EqO [2] M M' → BK M' (opnI S p (S 1 0 0)) → Q M' none) : Call (d + 3) mB_openWhatMayNotBeHeldBy [.ref 1, .int (nI p)] M Q := by
  have hw2 := hB.wf.nd
  refine Call_of (m := mB_openWhatMayNotBeHeldBy) [some (.ref 1), some (.int (nI p)), none] rfl (fun G => Nat.le_of_ble_eq_true rfl) (fun G => rfl) ?_
  refine g_iconst (nI 0) dX0_openWhatMayNotBeHeldBy_0 ki_0 ?_
  refine g_ist3_2 dX0_openWhatMayNotBeHeldBy_1 (by decide) rfl ?_
  refine loop_up (P := fun i => ∀ M', EqO [2] M M' → BK M' (opnI S p i) → Go mB_openWhatMayNotBeHeldBy (d + 3) Q 2 [some (.ref 1), some (.int (nI p)), some (.int (nI i))] [] M') (S 1 0 0) ?_ 0 (Nat.zero_le _) M EqO.rf ?_
  · intro i hi ih M' hE hB'
    have e1 : ∀ n, opnI S p n 1 0 0 = S 1 0 0 := fun n => by rw [opnI_hol hB 1 (by decide)]
    have hmay : ∀ b, mayB (opnI S p i) p b = mayB S p b := fun b => by
      simp only [mayB, hr, opnI_hol hB _ (show (4 : Nat) ≠ 12 by decide), opnI_hol hB _ (show (6 : Nat) ≠ 12 by decide), opnI_hol hB _ (show (7 : Nat) ≠ 12 by decide), opnI_hol hB _ (show (8 : Nat) ≠ 12 by decide), opnI_hol hB _ (show (9 : Nat) ≠ 12 by decide), opnI_hol hB _ (show (10 : Nat) ≠ 12 by decide), opnI_hol hB _ (show (11 : Nat) ≠ 12 by decide)]
    have hoi : opnI S p i 12 i 0 = S 12 i 0 := by unfold opnI; rw [if_neg (by omega)]
    refine g_iload_n dX0_openWhatMayNotBeHeldBy_2 rfl ?_
    refine g_aload_n dX0_openWhatMayNotBeHeldBy_3 rfl ?_
    refine g_geti (j := 1) dX0_openWhatMayNotBeHeldBy_4 gc0 rfl (by decide) rfl (by decide) fl_B_53 ?_
    try simp (disch := omega) only [hB'.nd, e1]
    refine g_icmp_ge_n 40 dX0_openWhatMayNotBeHeldBy_7 (by decide) (by omega) (by omega) (fun c7 => ?_) (fun c7 => ?_)
    · refine g_return dX0_openWhatMayNotBeHeldBy_40 rfl ?_
      rw [show i = S 1 0 0 by omega] at hB'
      exact h M' hE hB'
    · have hd8 := (hB.wf.dk (d := i) (by omega)).2.2
      have hstay : (¬ (S 12 i 0 = p ∧ mayB S p i = false)) → BK M' (opnI S p (i + 1)) := fun hn => by
        have e2 : opnI S p (i + 1) = opnI S p i := by
          funext a b c
          unfold opnI
          by_cases q : a = 12 ∧ c = 0 ∧ b < i ∧ S 12 b 0 = p ∧ mayB S p b = false
          · rw [if_pos q, if_pos ⟨q.1, q.2.1, by omega, q.2.2.2⟩]
          · rw [if_neg q, if_neg (fun z => ?_)]
            rcases Nat.lt_or_ge b i with y | y
            · exact q ⟨z.1, z.2.1, y, z.2.2.2⟩
            · have : b = i := by omega
              subst this
              exact hn z.2.2.2
        rw [e2]; exact hB'
      refine g_aload_n dX0_openWhatMayNotBeHeldBy_10 rfl ?_
      refine g_iload_n dX0_openWhatMayNotBeHeldBy_11 rfl ?_
      refine g_call1 dX0_openWhatMayNotBeHeldBy_12 clB_holderOf ml_B_71 gc0 rfl rfl (by decide) (Nat.le_of_ble_eq_true rfl) ?_
      refine SB_holderOf hB' (by rw [e1]; omega) ?_
      rw [hoi]
      refine g_iload_n dX0_openWhatMayNotBeHeldBy_15 rfl ?_
      refine g_icmp_ne 34 dX0_openWhatMayNotBeHeldBy_16 (by decide) (fun c16 => ?_) (fun c16 => ?_)
      · rw [hv_eq hd8 hp] at c16
        first | refine g_incn3_2 dX0_openWhatMayNotBeHeldBy_34 ki_1 (by decide) rfl ?_ | refine g_incg3_2 (nI 1) dX0_openWhatMayNotBeHeldBy_34 ki_1 (by decide) rfl ?_
        refine g_goto 2 dX0_openWhatMayNotBeHeldBy_37 (by decide) ?_
        exact ih (by omega) M' hE (hstay (fun q => c16 q.1))
      · rw [hv_eq hd8 hp] at c16
        refine g_aload_n dX0_openWhatMayNotBeHeldBy_19 rfl ?_
        refine g_iload_n dX0_openWhatMayNotBeHeldBy_20 rfl ?_
        refine g_iload_n dX0_openWhatMayNotBeHeldBy_21 rfl ?_
        refine g_call2 dX0_openWhatMayNotBeHeldBy_22 clB_mayHold ml_B_74 gc0 rfl rfl (by decide) (Nat.le_of_ble_eq_true rfl) ?_
        refine SB_mayHold hB' (by omega) (by rw [e1]; omega) ?_
        rw [hmay]
        refine g_if_ne_b 34 dX0_openWhatMayNotBeHeldBy_25 (by decide) (fun c25 => ?_) (fun c25 => ?_)
        · first | refine g_incn3_2 dX0_openWhatMayNotBeHeldBy_34 ki_1 (by decide) rfl ?_ | refine g_incg3_2 (nI 1) dX0_openWhatMayNotBeHeldBy_34 ki_1 (by decide) rfl ?_
          refine g_goto 2 dX0_openWhatMayNotBeHeldBy_37 (by decide) ?_
          exact ih (by omega) M' hE (hstay (fun q => by rw [q.2] at c25; cases c25))
        · refine g_aload_n dX0_openWhatMayNotBeHeldBy_28 rfl ?_
          refine g_iload_n dX0_openWhatMayNotBeHeldBy_29 rfl ?_
          refine g_iconst ((-1)) dX0_openWhatMayNotBeHeldBy_30 ki_m1 ?_
          refine g_call2 dX0_openWhatMayNotBeHeldBy_31 clB_putHolder ml_B_78 gc0 rfl rfl (by decide) (Nat.le_of_ble_eq_true rfl) ?_
          refine SB_putHolder hB' (by rw [e1]; omega) ?_
          first | refine g_incn3_2 dX0_openWhatMayNotBeHeldBy_34 ki_1 (by decide) rfl ?_ | refine g_incg3_2 (nI 1) dX0_openWhatMayNotBeHeldBy_34 ki_1 (by decide) rfl ?_
          refine g_goto 2 dX0_openWhatMayNotBeHeldBy_37 (by decide) ?_
          refine ih (by omega) _ (hE.tr (EqO.set (by decide))) ?_
          rw [show opnI S p (i + 1) = up (opnI S p i) 12 i 0 8 from ?_]
          · have := hB'.hol1 (e := i) (q := 8) (by rw [e1]; omega) (Nat.le_refl 8)
            exact this
          · funext a b c
            by_cases q : a = 12 ∧ b = i ∧ c = 0
            · obtain ⟨rfl, rfl, rfl⟩ := q
              rw [up_at]
              unfold opnI
              rw [if_pos ⟨rfl, rfl, by omega, c16, c25⟩]
            · rw [up_off q]
              unfold opnI
              by_cases z : a = 12 ∧ c = 0 ∧ b < i ∧ S 12 b 0 = p ∧ mayB S p b = false
              · rw [if_pos z, if_pos ⟨z.1, z.2.1, by omega, z.2.2.2⟩]
              · rw [if_neg z, if_neg (fun y => z ⟨y.1, y.2.1, by omega, y.2.2.2⟩)]
  · rw [show opnI S p 0 = S from ?_]
    · exact hB
    · funext a b c; unfold opnI; rw [if_neg (fun q => absurd q.2.2.1 (Nat.not_lt_zero _))]
theorem BK.gone {M : Mm} {S : BS} (hB : BK M S) {p : Nat} (hp : p < S 0 0 0) : BK (mset M 4 p (nI 0)) (up S 4 p 0 0) := by
  have hw := hB.wf.np
  obtain ⟨w, a1, a2, a3, a4, a5, a6, a7, a8, a9, a10, a11⟩ := hB
  refine ⟨?_, a1, a2, a3, a4, a5, fun q hq => ?_, a7, a8, a9, a10, a11⟩
  · obtain ⟨b1, b2, b3, b4, b5, b6, b7, b8, b9, b10, b11⟩ := w
    refine ⟨b1, b2, fun q hq => ?_, fun q hq => ?_, b5, b6, b7, b8, b9, b10, b11⟩
    · by_cases e : q = p
      · subst e; rw [up_at]; omega
      · rw [up_off (by omega)]; exact b3 q hq
    · have hq2 : S 0 0 0 ≤ q := hq
      rw [up_off (by omega)]; exact b4 q hq
  · by_cases e : q = p
    · subst e; rw [mset_at]; simp only [hr]; rw [up_at]; rfl
    · rw [mset_off (by omega)]; simp only [hr]; rw [up_off (by omega)]; exact a6 q hq
theorem SB_leave {d : Nat} {M : Mm} {S : BS} {Q : Po} (hB : BK M S) {p : Nat} (hp : p < S 0 0 0) (h : ∀ M', EqO [2, 4] M M' → BK M' (opnI (up S 4 p 0 0) p (S 1 0 0)) → Q M' none) : Call (d + 4) mB_leave [.ref 1, .int (nI p)] M Q := by
  have hw := hB.wf.np
  refine Call_of (m := mB_leave) [some (.ref 1), some (.int (nI p))] rfl (fun G => Nat.le_of_ble_eq_true rfl) (fun G => rfl) ?_
  refine g_aload_n dX0_leave_0 rfl ?_
  refine g_iload_n dX0_leave_1 rfl ?_
  refine g_call1 dX0_leave_2 clB_isOne ml_B_64 gc0 rfl rfl (by decide) (Nat.le_of_ble_eq_true rfl) ?_
  refine SB_isOneT hB hp ?_
  refine g_if_ne_tt 9 dX0_leave_5 (by decide) ?_
  refine g_aload_n dX0_leave_9 rfl ?_
  refine g_getr (j := 5) dX0_leave_10 gc0 rfl (by decide) rfl (by decide) fl_B_18 ?_
  refine g_iload_n dX0_leave_13 rfl ?_
  refine g_iconst (nI 0) dX0_leave_14 ki_0 ?_
  refine g_bast_n dX0_leave_15 rfl (by decide) (by decide) (by omega) (by first | rfl | exact vnar_bI _ | assumption) ?_
  refine g_aload_n dX0_leave_16 rfl ?_
  refine g_iload_n dX0_leave_17 rfl ?_
  refine g_call1 dX0_leave_18 clB_openWhatMayNotBeHeldBy ml_B_67 gc0 rfl rfl (by decide) (Nat.le_of_ble_eq_true rfl) ?_
  refine SB_openWhat (hB.gone hp) (by omega) (fun M' hE hB' => ?_)
  refine g_return dX0_leave_21 rfl ?_
  exact h M' (((EqO.set (L := [2, 4]) (M := M) (k := 4) (j := p) (v := nI 0) (by decide))).tr (hE.sub (by decide))) hB'
/-! BOOK: one comes, a DUTY comes, a YEAR is closed, copies -/
theorem pastSum_le2 {S : BS} (hW : WF S) {k : Nat} (hk : k < 4) : ∀ {n : Nat}, n ≤ 8 → pastSum S k n ≤ 999 * cnt (hr S) n := by
  intro n
  induction n with
  | zero => intro _; exact Nat.le_refl 0
  | succ n ih =>
    intro hn
    have h1 := ih (by omega)
    have h2 := hW.ps (p := n) (by omega) hk
    unfold pastSum at h1 ⊢
    rw [sumN, cnt]
    split <;> omega
theorem neuN_le {S : BS} (hW : WF S) {k : Nat} (hk : k < 4) : neuN S k ≤ 999 := by
  have h := pastSum_le2 hW hk hW.np
  unfold neuN
  split
  · omega
  · exact Nat.div_le_of_le_mul (by rw [Nat.mul_comm]; exact h)
def addS (S : BS) (r : Nat) : BS := fun a b c => if a = 0 then S 0 0 0 + 1 else if a = 3 ∧ b = S 0 0 0 then r else if a = 4 ∧ b = S 0 0 0 then 1 else if a = 5 ∧ b = S 0 0 0 then neuN S c else if a = 6 ∧ b = S 0 0 0 then 0 else if a = 13 ∧ b = S 0 0 0 then 0 else S a b c
theorem addS_0 (S : BS) (r : Nat) : addS S r 0 0 0 = S 0 0 0 + 1 := rfl
theorem addS_old {S : BS} {r a b c : Nat} (ha : a ≠ 0) (hb : b ≠ S 0 0 0) : addS S r a b c = S a b c := by
  unfold addS
  rw [if_neg ha, if_neg (fun q => hb q.2), if_neg (fun q => hb q.2), if_neg (fun q => hb q.2), if_neg (fun q => hb q.2), if_neg (fun q => hb q.2)]
theorem addS_oth {S : BS} {r a b c : Nat} (ha : a ≠ 0) (h3 : a ≠ 3) (h4 : a ≠ 4) (h5 : a ≠ 5) (h6 : a ≠ 6) (h13 : a ≠ 13) : addS S r a b c = S a b c := by
  unfold addS
  rw [if_neg ha, if_neg (fun q => h3 q.1), if_neg (fun q => h4 q.1), if_neg (fun q => h5 q.1), if_neg (fun q => h6 q.1), if_neg (fun q => h13 q.1)]
theorem addS_3 (S : BS) (r c : Nat) : addS S r 3 (S 0 0 0) c = r := by unfold addS; rw [if_neg (by decide), if_pos ⟨rfl, rfl⟩]
theorem addS_4 (S : BS) (r c : Nat) : addS S r 4 (S 0 0 0) c = 1 := by unfold addS; rw [if_neg (by decide), if_neg (fun q => absurd q.1 (by decide)), if_pos ⟨rfl, rfl⟩]
theorem addS_5 (S : BS) (r c : Nat) : addS S r 5 (S 0 0 0) c = neuN S c := by unfold addS; rw [if_neg (by decide), if_neg (fun q => absurd q.1 (by decide)), if_neg (fun q => absurd q.1 (by decide)), if_pos ⟨rfl, rfl⟩]
theorem addS_6 (S : BS) (r c : Nat) : addS S r 6 (S 0 0 0) c = 0 := by unfold addS; rw [if_neg (by decide), if_neg (fun q => absurd q.1 (by decide)), if_neg (fun q => absurd q.1 (by decide)), if_neg (fun q => absurd q.1 (by decide)), if_pos ⟨rfl, rfl⟩]
theorem addS_13 (S : BS) (r c : Nat) : addS S r 13 (S 0 0 0) c = 0 := by unfold addS; rw [if_neg (by decide), if_neg (fun q => absurd q.1 (by decide)), if_neg (fun q => absurd q.1 (by decide)), if_neg (fun q => absurd q.1 (by decide)), if_neg (fun q => absurd q.1 (by decide)), if_pos ⟨rfl, rfl⟩]
theorem addS_wf {S : BS} (hW : WF S) {r : Nat} (hr : r ≤ 3) (hn : S 0 0 0 < 8) : WF (addS S r) := by
  have o : ∀ {a b c : Nat}, a ≠ 0 → a ≠ 3 → a ≠ 4 → a ≠ 5 → a ≠ 6 → a ≠ 13 → addS S r a b c = S a b c := fun h0 h3 h4 h5 h6 h13 => addS_oth h0 h3 h4 h5 h6 h13
  refine ⟨by rw [addS_0]; omega, by rw [o (by decide) (by decide) (by decide) (by decide) (by decide) (by decide)]; exact hW.nd, fun p hp => ?_, fun p hp => ?_, fun p hp => ?_, fun p k hp hk => ?_, fun p hp => ?_, fun p q hp hq => ?_, fun d hd => ?_, fun p d hp hd => ?_, fun p d hd => ?_⟩
  · by_cases e : p = S 0 0 0
    · subst e; rw [addS_4]; exact Nat.le_refl 1
    · rw [addS_old (by decide) e]; exact hW.hN hp
  · rw [addS_0] at hp
    rw [addS_old (by decide) (by omega)]; exact hW.out (by omega)
  · by_cases e : p = S 0 0 0
    · subst e; rw [addS_3]; exact hr
    · rw [addS_old (by decide) e]; exact hW.rk hp
  · by_cases e : p = S 0 0 0
    · subst e; rw [addS_5]; exact neuN_le hW hk
    · rw [addS_old (by decide) e]; exact hW.ps hp hk
  · by_cases e : p = S 0 0 0
    · subst e; rw [addS_6]; omega
    · rw [addS_old (by decide) e]; exact hW.nr hp
  · rw [o (a := 7) (by decide) (by decide) (by decide) (by decide) (by decide) (by decide), o (a := 8) (by decide) (by decide) (by decide) (by decide) (by decide) (by decide), o (a := 9) (by decide) (by decide) (by decide) (by decide) (by decide) (by decide)]; exact hW.rl hp hq
  · rw [o (a := 10) (by decide) (by decide) (by decide) (by decide) (by decide) (by decide), o (a := 11) (by decide) (by decide) (by decide) (by decide) (by decide) (by decide), o (a := 12) (by decide) (by decide) (by decide) (by decide) (by decide) (by decide)]; exact hW.dk hd
  · by_cases e : p = S 0 0 0
    · subst e; rw [addS_13]; omega
    · rw [addS_old (by decide) e]; exact hW.dl hp hd
  · rw [o (a := 1) (by decide) (by decide) (by decide) (by decide) (by decide) (by decide)] at hd
    by_cases e : p = S 0 0 0
    · subst e; rw [addS_13]
    · rw [addS_old (by decide) e]; exact hW.dl0 hd
theorem BKaddS {M M' : Mm} {S : BS} (hB : BK M S) {r : Nat} (hr3 : r ≤ 3) (hn : S 0 0 0 < 8) (h0 : M' 1 0 = nI (S 0 0 0 + 1)) (h3 : M' 3 (S 0 0 0) = nI r) (h4 : M' 4 (S 0 0 0) = nI 1) (h5 : ∀ k, k < 4 → M' 5 (S 0 0 0 * 4 + k) = nI (neuN S k)) (h6 : M' 6 (S 0 0 0) = nI 0) (h13 : ∀ d, d < 24 → M' 13 (S 0 0 0 * 24 + d) = nI 0)
    (hk : ∀ k j, relB S k j → ¬ (k = 1 ∧ j = 0) → ¬ (k = 4 ∧ j = S 0 0 0) → M' k j = M k j) : BK M' (addS S r) := by
  have hnr := fun p (hp : p < S 0 0 0) => hB.wf.nr (p := p) (by have := hB.wf.np; omega)
  have o : ∀ {a b c : Nat}, a ≠ 0 → a ≠ 3 → a ≠ 4 → a ≠ 5 → a ≠ 6 → a ≠ 13 → addS S r a b c = S a b c := fun h0 h3 h4 h5 h6 h13 => addS_oth h0 h3 h4 h5 h6 h13
  have o1 : addS S r 1 0 0 = S 1 0 0 := o (by decide) (by decide) (by decide) (by decide) (by decide) (by decide)
  have o10 : addS S r 10 = S 10 := by funext b c; exact o (by decide) (by decide) (by decide) (by decide) (by decide) (by decide)
  refine ⟨addS_wf hB.wf hr3 hn, h0, ?_, ?_, fun d hd => ?_, fun p hp => ?_, fun p hp => ?_, fun p k hp hk4 => ?_, fun p hp => ?_, fun p q hp hq => ?_, fun d hd => ?_, fun p d hp hd => ?_⟩
  · rw [o1, hk 1 1 (relB_1 (by omega)) (by omega) (by omega)]; exact hB.nd
  · rw [o (a := 2) (by decide) (by decide) (by decide) (by decide) (by decide) (by decide), hk 1 2 (relB_1 (by omega)) (by omega) (by omega)]; exact hB.yr
  · rw [o1] at hd
    rw [o (a := 12) (by decide) (by decide) (by decide) (by decide) (by decide) (by decide), hk 2 d (relB_2 (by omega)) (by omega) (by omega)]; exact hB.ho hd
  · rw [addS_0] at hp
    by_cases e : p = S 0 0 0
    · subst e; rw [addS_3]; exact h3
    · rw [addS_old (by decide) e, hk 3 p (relB_3 (by omega)) (by omega) (by omega)]; exact hB.rk (by omega)
  · by_cases e : p = S 0 0 0
    · subst e; rw [h4]; unfold hr; rw [addS_4]; rfl
    · unfold hr; rw [addS_old (by decide) e, hk 4 p (relB_4 (by omega)) (by omega) (by omega)]; exact hB.here hp
  · rw [addS_0] at hp
    by_cases e : p = S 0 0 0
    · subst e; rw [addS_5]; exact h5 k hk4
    · rw [addS_old (by decide) e, hk 5 _ (relB_5 (by omega)) (by omega) (by omega)]; exact hB.ps (by omega) hk4
  · rw [addS_0] at hp
    by_cases e : p = S 0 0 0
    · subst e; rw [addS_6]; exact h6
    · rw [addS_old (by decide) e, hk 6 p (relB_6 (by omega)) (by omega) (by omega)]; exact hB.nr (by omega)
  · rw [addS_0] at hp
    by_cases e : p = S 0 0 0
    · subst e; rw [addS_6] at hq; omega
    · rw [addS_old (by decide) e] at hq
      have hp2 : p < S 0 0 0 := by omega
      have := hnr p hp2
      rw [addS_old (a := 7) (by decide) e, addS_old (a := 8) (by decide) e, addS_old (a := 9) (by decide) e, hk 7 _ (relB_7 (by omega)) (by omega) (by omega), hk 8 _ (relB_8 (by omega)) (by omega) (by omega), hk 9 _ (relB_9 (by omega)) (by omega) (by omega)]
      exact ⟨hB.rs hp2 hq, hB.ra hp2 hq, hB.rb hp2 hq⟩
  · rw [o1] at hd
    have e10 : sd (addS S r) d = sd S d := by simp only [sd, o1, o10]
    rw [o (a := 10) (by decide) (by decide) (by decide) (by decide) (by decide) (by decide), o (a := 11) (by decide) (by decide) (by decide) (by decide) (by decide) (by decide), e10, hk 10 d (relB_10 (by omega)) (by omega) (by omega), hk 11 d (relB_11 (by omega)) (by omega) (by omega), hk 12 d (relB_12 (by omega)) (by omega) (by omega)]
    exact ⟨hB.dy hd, hB.kd hd, hB.st hd⟩
  · rw [addS_0] at hp
    by_cases e : p = S 0 0 0
    · subst e; rw [addS_13]; exact h13 d hd
    · rw [addS_old (by decide) e, hk 13 _ (relB_13 (by omega)) (by omega) (by omega)]; exact hB.dl (by omega) hd
theorem SB_addOne {d : Nat} {M : Mm} {S : BS} {Q : Po} (hB : BK M S) {r : Nat} (hr : r ≤ 3) (hn : S 0 0 0 < 8) (h : ∀ M', EqO [1, 3, 4, 5, 6, 13] M M' → BK M' (addS S r) → Q M' (some (.int (nI (S 0 0 0))))) : Call (d + 4) mB_addOne [.ref 1, .int (nI r)] M Q := by
  have hw := hB.wf.np
  refine Call_of (m := mB_addOne) [some (.ref 1), some (.int (nI r)), none, none] rfl (fun G => Nat.le_of_ble_eq_true rfl) (fun G => rfl) ?_
  refine g_aload_n dX0_addOne_0 rfl ?_
  refine g_geti (j := 0) dX0_addOne_1 gc0 rfl (by decide) rfl (by decide) fl_B_49 ?_
  try simp (disch := omega) only [hB.np]
  refine g_ist4_2 dX0_addOne_4 (by decide) rfl ?_
  refine g_iload_n dX0_addOne_5 rfl ?_
  refine g_if_lt_n 15 dX0_addOne_6 (by decide) (by omega) ?_
  refine g_iload_n dX0_addOne_9 rfl ?_
  refine g_bipush (nI 8) dX0_addOne_10 kb_8 ?_
  refine g_icmp_lt_n 18 dX0_addOne_12 (by decide) (by omega) (by omega) (fun c12 => ?_) (fun c12 => ?_)
  · skip
    refine g_aload_n dX0_addOne_18 rfl ?_
    refine g_getr (j := 4) dX0_addOne_19 gc0 rfl (by decide) rfl (by decide) fl_B_15 ?_
    refine g_iload_n dX0_addOne_22 rfl ?_
    refine g_iload_n dX0_addOne_23 rfl ?_
    refine g_iast_n dX0_addOne_24 (by first | rfl | assumption) (by first | decide | assumption) (by omega) (by omega) ?_
    refine g_aload_n dX0_addOne_25 rfl ?_
    refine g_getr (j := 7) dX0_addOne_26 gc0 rfl (by decide) rfl (by decide) fl_B_25 ?_
    refine g_iload_n dX0_addOne_29 rfl ?_
    refine g_iconst (nI 0) dX0_addOne_30 ki_0 ?_
    refine g_iast_n dX0_addOne_31 (by first | rfl | assumption) (by first | decide | assumption) (by omega) (by omega) ?_
    refine g_iconst (nI 0) dX0_addOne_32 ki_0 ?_
    refine g_ist4_3 dX0_addOne_33 (by decide) rfl ?_
    refine loop_up (P := fun i => ∀ M', EqO [3, 5, 6] M M' → (∀ k j, relB S k j → M' k j = M k j) → M' 3 (S 0 0 0) = nI r → M' 6 (S 0 0 0) = nI 0 → (∀ k, k < i → M' 5 (S 0 0 0 * 4 + k) = nI (neuN S k)) → Go mB_addOne (d + 4) Q 34 [some (.ref 1), some (.int (nI r)), some (.int (nI (S 0 0 0))), some (.int (nI i))] [] M') 4 ?_ 0 (Nat.zero_le _) _ ?_ ?_ ?_ ?_ (fun k hk => absurd hk (by omega))
    · intro i hi ih M' hE hkeep h3 h6 h5
      have hB' := hB.keep hkeep
      refine g_iload_n dX0_addOne_34 rfl ?_
      refine g_iconst (nI 4) dX0_addOne_35 ki_4 ?_
      refine g_icmp_ge_n 60 dX0_addOne_36 (by decide) (by omega) (by omega) (fun c36 => ?_) (fun c36 => ?_)
      · refine g_iconst (nI 0) dX0_addOne_60 ki_0 ?_
        refine g_ist4_3 dX0_addOne_61 (by decide) rfl ?_
        refine loop_up (P := fun i => ∀ M', EqO [3, 5, 6, 13] M M' → (∀ k j, relB S k j → M' k j = M k j) → M' 3 (S 0 0 0) = nI r → M' 6 (S 0 0 0) = nI 0 → (∀ k, k < 4 → M' 5 (S 0 0 0 * 4 + k) = nI (neuN S k)) → (∀ e, e < i → M' 13 (S 0 0 0 * 24 + e) = nI 0) → Go mB_addOne (d + 4) Q 62 [some (.ref 1), some (.int (nI r)), some (.int (nI (S 0 0 0))), some (.int (nI i))] [] M') 24 ?_ 0 (Nat.zero_le _) _ (hE.sub (by decide)) hkeep h3 h6 (fun k hk => h5 k (by omega)) (fun k hk => absurd hk (by omega))
        intro j hj jh M2 hE2 hkeep2 g3 g6 g5 g13
        have e0 : M2 1 0 = nI (S 0 0 0) := (hB.keep hkeep2).np
        refine g_iload_n dX0_addOne_62 rfl ?_
        refine g_bipush (nI 24) dX0_addOne_63 kb_24 ?_
        refine g_icmp_ge_n 86 dX0_addOne_65 (by decide) (by omega) (by omega) (fun c65 => ?_) (fun c65 => ?_)
        · skip
          refine g_aload_n dX0_addOne_86 rfl ?_
          refine g_getr (j := 5) dX0_addOne_87 gc0 rfl (by decide) rfl (by decide) fl_B_18 ?_
          refine g_iload_n dX0_addOne_90 rfl ?_
          refine g_iconst (nI 1) dX0_addOne_91 ki_1 ?_
          refine g_bast_n dX0_addOne_92 rfl (by decide) (by decide) (by omega) (by first | rfl | exact vnar_bI _ | assumption) ?_
          refine g_aload_n dX0_addOne_93 rfl ?_
          refine g_dup dX0_addOne_94 rfl ?_
          refine g_geti (j := 0) dX0_addOne_95 gc0 rfl (by decide) rfl (by decide) fl_B_49 ?_
          try simp (disch := omega) only [mset_off, e0]
          refine g_iconst (nI 1) dX0_addOne_98 ki_1 ?_
          first | refine g_iadd_n dX0_addOne_99 ?_ | refine g_iadd dX0_addOne_99 ?_
          refine g_puti (j := 0) dX0_addOne_100 gc0 rfl (by decide) rfl (by decide) fl_B_49 rfl (tyX0_ok 0 (by decide)) (by first | rfl | exact nar_bI _) rfl ?_
          refine g_iload_n dX0_addOne_103 rfl ?_
          refine g_ireturn dX0_addOne_104 rfl (by first | rfl | exact nar_bI _) ?_
          refine h _ ((hE2.sub (by decide)).tr ((EqO.set (by decide)).tr (EqO.set (by decide)))) ?_
          refine BKaddS hB hr hn ?_ ?_ ?_ ?_ ?_ ?_ ?_
          · rw [mset_at]
          · rw [mset_off (by omega), mset_off (by omega)]; exact g3
          · rw [mset_off (by omega), mset_at]
          · intro k hk; rw [mset_off (by omega), mset_off (by omega)]; exact g5 k hk
          · rw [mset_off (by omega), mset_off (by omega)]; exact g6
          · intro k hk; rw [mset_off (by omega), mset_off (by omega)]; exact g13 k (by omega)
          · intro k q hrel n1 n2; rw [mset_off (by omega), mset_off (by omega)]; exact hkeep2 k q hrel
        · refine g_aload_n dX0_addOne_68 rfl ?_
          refine g_getr (j := 14) dX0_addOne_69 gc0 rfl (by decide) rfl (by decide) fl_B_46 ?_
          refine g_iload_n dX0_addOne_72 rfl ?_
          refine g_bipush (nI 24) dX0_addOne_73 kb_24 ?_
          first | refine g_imul_n dX0_addOne_75 ?_ | refine g_imul dX0_addOne_75 ?_
          refine g_iload_n dX0_addOne_76 rfl ?_
          first | refine g_iadd_n dX0_addOne_77 ?_ | refine g_iadd dX0_addOne_77 ?_
          refine g_iconst (nI 0) dX0_addOne_78 ki_0 ?_
          refine g_iast_n dX0_addOne_79 (by first | rfl | assumption) (by first | decide | assumption) (by omega) (by omega) ?_
          first | refine g_incn4_3 dX0_addOne_80 ki_1 (by decide) rfl ?_ | refine g_incg4_3 (nI 1) dX0_addOne_80 ki_1 (by decide) rfl ?_
          refine g_goto 62 dX0_addOne_83 (by decide) ?_
          refine jh (by omega) _ (hE2.tr (EqO.set (by decide))) ?_ ?_ ?_ ?_ ?_
          · intro k q hrel
            rw [mset_off (by unfold relB at hrel; omega)]; exact hkeep2 k q hrel
          · rw [mset_off (by omega)]; exact g3
          · rw [mset_off (by omega)]; exact g6
          · intro k hk; rw [mset_off (by omega)]; exact g5 k hk
          · intro k hk
            by_cases e : k = j
            · subst e; rw [mset_at]
            · rw [mset_off (by omega)]; exact g13 k (by omega)
      · refine g_aload_n dX0_addOne_39 rfl ?_
        refine g_getr (j := 6) dX0_addOne_40 gc0 rfl (by decide) rfl (by decide) fl_B_22 ?_
        refine g_iload_n dX0_addOne_43 rfl ?_
        refine g_iconst (nI 4) dX0_addOne_44 ki_4 ?_
        first | refine g_imul_n dX0_addOne_45 ?_ | refine g_imul dX0_addOne_45 ?_
        refine g_iload_n dX0_addOne_46 rfl ?_
        first | refine g_iadd_n dX0_addOne_47 ?_ | refine g_iadd dX0_addOne_47 ?_
        refine g_aload_n dX0_addOne_48 rfl ?_
        refine g_iload_n dX0_addOne_49 rfl ?_
        refine g_call1 dX0_addOne_50 clB_neutralPast ml_B_60 gc0 rfl rfl (by decide) (Nat.le_of_ble_eq_true rfl) ?_
        refine SB_neutralPast hB' (by omega) ?_
        refine g_iast_n dX0_addOne_53 (by first | rfl | assumption) (by first | decide | assumption) (by omega) (by omega) ?_
        first | refine g_incn4_3 dX0_addOne_54 ki_1 (by decide) rfl ?_ | refine g_incg4_3 (nI 1) dX0_addOne_54 ki_1 (by decide) rfl ?_
        refine g_goto 34 dX0_addOne_57 (by decide) ?_
        refine ih (by omega) _ (hE.tr (EqO.set (by decide))) ?_ ?_ ?_ ?_
        · intro k q hrel
          rw [mset_off (by unfold relB at hrel; omega)]; exact hkeep k q hrel
        · rw [mset_off (by omega)]; exact h3
        · rw [mset_off (by omega)]; exact h6
        · intro k hk
          by_cases e : k = i
          · subst e; rw [mset_at]
          · rw [mset_off (by omega)]; exact h5 k (by omega)
    · exact (EqO.set (by decide)).tr (EqO.set (by decide))
    · intro k q hrel
      rw [mset_off (by unfold relB at hrel; omega), mset_off (by unfold relB at hrel; omega)]
    · rw [mset_off (by omega), mset_at]
    · rw [mset_at]
  · exact absurd c12 (by omega)
/-! BOOK: a DUTY comes, a YEAR is closed, copies -/
theorem pos_congr {f g dyf dyg : Nat → Nat} {v : Nat} : ∀ {n : Nat}, (∀ k, k < n → f k = g k) → (∀ k, k < n → dyf (g k) = dyg (g k)) → pos f dyf v n = pos g dyg v n
  | 0, _, _ => rfl
  | n + 1, h1, h2 => by
    rw [pos, pos, h1 n (by omega), h2 n (by omega), pos_congr (n := n) (fun k hk => h1 k (by omega)) (fun k hk => h2 k (by omega))]
theorem sdF_congr {dyf dyg : Nat → Nat} : ∀ {n : Nat}, (∀ d, d < n → dyf d = dyg d) → ∀ k, k < n → sdF dyf n k = sdF dyg n k
  | 0, _, k, hk => by omega
  | n + 1, h, k, hk => by
    have ih := sdF_congr (n := n) (fun d hd => h d (by omega))
    have hp : pos (sdF dyf n) dyf (dyf n) n = pos (sdF dyg n) dyg (dyg n) n := by
      rw [h n (by omega)]
      exact pos_congr ih (fun j hj => h _ (by have := sdF_lt dyg n j hj; omega))
    have hl := pos_le (sdF dyg n) dyg (dyg n) n
    rw [sdF, sdF]
    unfold insF
    rw [hp]
    split
    · exact ih k (by omega)
    · split
      · rfl
      · exact ih (k - 1) (by omega)
def addD (S : BS) (dd kk : Nat) : BS := fun a b c => if a = 1 then S 1 0 0 + 1 else if a = 10 ∧ b = S 1 0 0 then dd else if a = 11 ∧ b = S 1 0 0 then kk else if a = 12 ∧ b = S 1 0 0 then 8 else S a b c
theorem addD_1 (S : BS) (dd kk : Nat) : addD S dd kk 1 0 0 = S 1 0 0 + 1 := rfl
theorem addD_10 (S : BS) (dd kk c : Nat) : addD S dd kk 10 (S 1 0 0) c = dd := by unfold addD; rw [if_neg (by decide), if_pos ⟨rfl, rfl⟩]
theorem addD_11 (S : BS) (dd kk c : Nat) : addD S dd kk 11 (S 1 0 0) c = kk := by unfold addD; rw [if_neg (by decide), if_neg (fun q => absurd q.1 (by decide)), if_pos ⟨rfl, rfl⟩]
theorem addD_12 (S : BS) (dd kk c : Nat) : addD S dd kk 12 (S 1 0 0) c = 8 := by unfold addD; rw [if_neg (by decide), if_neg (fun q => absurd q.1 (by decide)), if_neg (fun q => absurd q.1 (by decide)), if_pos ⟨rfl, rfl⟩]
theorem addD_old {S : BS} {dd kk a b c : Nat} (ha : a ≠ 1) (hb : b ≠ S 1 0 0) : addD S dd kk a b c = S a b c := by
  unfold addD
  rw [if_neg ha, if_neg (fun q => hb q.2), if_neg (fun q => hb q.2), if_neg (fun q => hb q.2)]
theorem addD_oth {S : BS} {dd kk a b c : Nat} (ha : a ≠ 1) (h10 : a ≠ 10) (h11 : a ≠ 11) (h12 : a ≠ 12) : addD S dd kk a b c = S a b c := by
  unfold addD
  rw [if_neg ha, if_neg (fun q => h10 q.1), if_neg (fun q => h11 q.1), if_neg (fun q => h12 q.1)]
theorem addD_wf {S : BS} (hW : WF S) {dd kk : Nat} (hd : dd ≤ 365) (hk : kk < 4) (hn : S 1 0 0 < 24) : WF (addD S dd kk) := by
  have o : ∀ {a b c : Nat}, a ≠ 1 → a ≠ 10 → a ≠ 11 → a ≠ 12 → addD S dd kk a b c = S a b c := fun h1 h2 h3 h4 => addD_oth h1 h2 h3 h4
  refine ⟨by rw [o (by decide) (by decide) (by decide) (by decide)]; exact hW.np, by rw [addD_1]; omega, fun p hp => ?_, fun p hp => ?_, fun p hp => ?_, fun p k hp hk => ?_, fun p hp => ?_, fun p q hp hq => ?_, fun e he => ?_, fun p d hp hd => ?_, fun p d hd => ?_⟩
  · rw [o (by decide) (by decide) (by decide) (by decide)]; exact hW.hN hp
  · rw [o (by decide) (by decide) (by decide) (by decide)] at hp ⊢; exact hW.out hp
  · rw [o (by decide) (by decide) (by decide) (by decide)]; exact hW.rk hp
  · rw [o (by decide) (by decide) (by decide) (by decide)]; exact hW.ps hp hk
  · rw [o (by decide) (by decide) (by decide) (by decide)]; exact hW.nr hp
  · rw [o (a := 7) (by decide) (by decide) (by decide) (by decide), o (a := 8) (by decide) (by decide) (by decide) (by decide), o (a := 9) (by decide) (by decide) (by decide) (by decide)]; exact hW.rl hp hq
  · by_cases e2 : e = S 1 0 0
    · subst e2; rw [addD_10, addD_11, addD_12]; omega
    · rw [addD_old (a := 10) (by decide) e2, addD_old (a := 11) (by decide) e2, addD_old (a := 12) (by decide) e2]; exact hW.dk he
  · rw [o (by decide) (by decide) (by decide) (by decide)]; exact hW.dl hp hd
  · rw [addD_1] at hd
    rw [o (by decide) (by decide) (by decide) (by decide)]; exact hW.dl0 (by omega)
theorem addD_sd (S : BS) (dd kk : Nat) : ∀ k, k ≤ S 1 0 0 → sd (addD S dd kk) k = insF (fun j => sd S j) (fun e => if e = S 1 0 0 then dd else S 10 e 0) (S 1 0 0) (S 1 0 0) k := by
  intro k hk
  have hdyf : (fun e => addD S dd kk 10 e 0) = fun e => if e = S 1 0 0 then dd else S 10 e 0 := by
    funext e
    by_cases q : e = S 1 0 0
    · subst q; rw [addD_10, if_pos rfl]
    · rw [addD_old (by decide) q, if_neg q]
  simp only [sd, addD_1, hdyf]
  rw [sdF]
  have hc := sdF_congr (dyf := fun e => if e = S 1 0 0 then dd else S 10 e 0) (dyg := fun e => S 10 e 0) (n := S 1 0 0) (fun e he => by rw [if_neg (by omega)])
  have hp : ∀ v, pos (sdF (fun e => if e = S 1 0 0 then dd else S 10 e 0) (S 1 0 0)) (fun e => if e = S 1 0 0 then dd else S 10 e 0) v (S 1 0 0) = pos (fun j => sdF (fun e => S 10 e 0) (S 1 0 0) j) (fun e => if e = S 1 0 0 then dd else S 10 e 0) v (S 1 0 0) := fun v => pos_congr hc (fun _ _ => rfl)
  have hl := pos_le (fun j => sdF (fun e => S 10 e 0) (S 1 0 0) j) (fun e => if e = S 1 0 0 then dd else S 10 e 0) ((fun e => if e = S 1 0 0 then dd else S 10 e 0) (S 1 0 0)) (S 1 0 0)
  unfold insF
  rw [hp]
  split
  · exact hc k (by omega)
  · split
    · rfl
    · exact hc (k - 1) (by omega)
theorem SB_isDutyL {d : Nat} {M : Mm} {Q : Po} {n e : Nat} (h1 : M 1 1 = nI n) (hn : n ≤ 24) (he : e < n) (h : Q M (some (.int (bI true)))) : Call (d + 1) mB_isDuty [.ref 1, .int (nI e)] M Q := by
  refine Call_of (m := mB_isDuty) [some (.ref 1), some (.int (nI e))] rfl (fun G => Nat.le_of_ble_eq_true rfl) (fun G => rfl) ?_
  refine g_iload_n dX0_isDuty_0 rfl ?_
  refine g_if_lt_n 22 dX0_isDuty_1 (by decide) (by omega) ?_
  refine g_iload_n dX0_isDuty_4 rfl ?_
  refine g_aload_n dX0_isDuty_5 rfl ?_
  refine g_geti (j := 1) dX0_isDuty_6 gc0 rfl (by decide) rfl (by decide) fl_B_53 ?_
  try simp (disch := omega) only [h1]
  refine g_icmp_ge_n 22 dX0_isDuty_9 (by decide) (by omega) (by omega) (fun c9 => ?_) (fun c9 => ?_)
  · exact absurd c9 (by omega)
  · refine g_iload_n dX0_isDuty_12 rfl ?_
    refine g_bipush (nI 24) dX0_isDuty_13 kb_24 ?_
    refine g_icmp_ge_n 22 dX0_isDuty_15 (by decide) (by omega) (by omega) (fun c15 => ?_) (fun c15 => ?_)
    · exact absurd c15 (by omega)
    · refine g_iconst (nI 1) dX0_isDuty_18 ki_1 ?_
      refine g_goto 23 dX0_isDuty_19 (by decide) ?_
      refine g_ireturn dX0_isDuty_23 rfl (by first | rfl | exact nar_bI _) ?_
      exact h
theorem SB_dayAtL {d : Nat} {M : Mm} {Q : Po} {n e s v : Nat} (h1 : M 1 1 = nI n) (hn : n ≤ 24) (he : e < n) (h2 : M 12 e = nI s) (hs : s < n) (h3 : M 10 s = nI v) (h : Q M (some (.int (nI v)))) : Call (d + 3) mB_dayAt [.ref 1, .int (nI e)] M Q := by
  refine Call_of (m := mB_dayAt) [some (.ref 1), some (.int (nI e))] rfl (fun G => Nat.le_of_ble_eq_true rfl) (fun G => rfl) ?_
  refine g_aload_n dX0_dayAt_0 rfl ?_
  refine g_aload_n dX0_dayAt_1 rfl ?_
  refine g_iload_n dX0_dayAt_2 rfl ?_
  refine g_call1 dX0_dayAt_3 clB_dutyAt ml_B_115 gc0 rfl rfl (by decide) (Nat.le_of_ble_eq_true rfl) ?_
  have hA : ∀ Q : Po, Q M (some (.int (nI s))) → Call (d + 2) mB_dutyAt [.ref 1, .int (nI e)] M Q := by
    intro Q h
    refine Call_of (m := mB_dutyAt) [some (.ref 1), some (.int (nI e))] rfl (fun G => Nat.le_of_ble_eq_true rfl) (fun G => rfl) ?_
    refine g_aload_n dX0_dutyAt_0 rfl ?_
    refine g_iload_n dX0_dutyAt_1 rfl ?_
    refine g_call1 dX0_dutyAt_2 clB_isDuty ml_B_105 gc0 rfl rfl (by decide) (Nat.le_of_ble_eq_true rfl) ?_
    refine SB_isDutyL h1 hn he ?_
    refine g_if_eq_tt 17 dX0_dutyAt_5 (by decide) ?_
    refine g_aload_n dX0_dutyAt_8 rfl ?_
    refine g_getr (j := 13) dX0_dutyAt_9 gc0 rfl (by decide) rfl (by decide) fl_B_43 ?_
    refine g_iload_n dX0_dutyAt_12 rfl ?_
    refine g_iald_n dX0_dutyAt_13 (by first | rfl | assumption) (by first | decide | assumption) (by omega) (by omega) ?_
    try simp (disch := omega) only [h2]
    refine g_goto 18 dX0_dutyAt_14 (by decide) ?_
    refine g_ireturn dX0_dutyAt_18 rfl (by first | rfl | exact nar_bI _) ?_
    exact h
  refine hA _ ?_
  refine g_call1 dX0_dayAt_6 clB_dayOf ml_B_118 gc0 rfl rfl (by decide) (Nat.le_of_ble_eq_true rfl) ?_
  have hB : ∀ Q : Po, Q M (some (.int (nI v))) → Call (d + 2) mB_dayOf [.ref 1, .int (nI s)] M Q := by
    intro Q h
    refine Call_of (m := mB_dayOf) [some (.ref 1), some (.int (nI s))] rfl (fun G => Nat.le_of_ble_eq_true rfl) (fun G => rfl) ?_
    refine g_aload_n dX0_dayOf_0 rfl ?_
    refine g_iload_n dX0_dayOf_1 rfl ?_
    refine g_call1 dX0_dayOf_2 clB_isDuty ml_B_105 gc0 rfl rfl (by decide) (Nat.le_of_ble_eq_true rfl) ?_
    refine SB_isDutyL h1 hn hs ?_
    refine g_if_eq_tt 17 dX0_dayOf_5 (by decide) ?_
    refine g_aload_n dX0_dayOf_8 rfl ?_
    refine g_getr (j := 11) dX0_dayOf_9 gc0 rfl (by decide) rfl (by decide) fl_B_37 ?_
    refine g_iload_n dX0_dayOf_12 rfl ?_
    refine g_iald_n dX0_dayOf_13 (by first | rfl | assumption) (by first | decide | assumption) (by omega) (by omega) ?_
    try simp (disch := omega) only [h3]
    refine g_goto 18 dX0_dayOf_14 (by decide) ?_
    refine g_ireturn dX0_dayOf_18 rfl (by first | rfl | exact nar_bI _) ?_
    exact h
  refine hB _ ?_
  refine g_ireturn dX0_dayAt_9 rfl (by first | rfl | exact nar_bI _) ?_
  exact h
theorem pos_step {f dyf : Nat → Nat} {v k : Nat} (h : v < dyf (f k)) : pos f dyf v (k + 1) = pos f dyf v k := by rw [pos, if_pos h]
theorem pos_stop {f dyf : Nat → Nat} {v k : Nat} (h : ¬ v < dyf (f k)) : pos f dyf v (k + 1) = k + 1 := by rw [pos, if_neg h]
theorem BKaddD {M M' : Mm} {S : BS} (hB : BK M S) {dd kk : Nat} (hdd : dd ≤ 365) (hkk : kk < 4) (hn : S 1 0 0 < 24) (h1 : M' 1 1 = nI (S 1 0 0 + 1)) (h2 : M' 2 (S 1 0 0) = -1) (h10 : M' 10 (S 1 0 0) = nI dd) (h11 : M' 11 (S 1 0 0) = nI kk) (h12 : ∀ k, k ≤ S 1 0 0 → M' 12 k = nI (insF (fun j => sd S j) (fun e => if e = S 1 0 0 then dd else S 10 e 0) (S 1 0 0) (S 1 0 0) k))
    (hk : ∀ k j, relB S k j → ¬ (k = 1 ∧ j = 1) → k ≠ 12 → M' k j = M k j) : BK M' (addD S dd kk) := by
  have hnr := fun p (hp : p < S 0 0 0) => hB.wf.nr (p := p) (by have := hB.wf.np; omega)
  have o : ∀ {a b c : Nat}, a ≠ 1 → a ≠ 10 → a ≠ 11 → a ≠ 12 → addD S dd kk a b c = S a b c := fun h1 h2 h3 h4 => addD_oth h1 h2 h3 h4
  have o0 : addD S dd kk 0 0 0 = S 0 0 0 := o (by decide) (by decide) (by decide) (by decide)
  refine ⟨addD_wf hB.wf hdd hkk hn, ?_, h1, ?_, fun e he => ?_, fun p hp => ?_, fun p hp => ?_, fun p k hp hk4 => ?_, fun p hp => ?_, fun p q hp hq => ?_, fun e he => ?_, fun p e hp he => ?_⟩
  · rw [o0, hk 1 0 (relB_1 (by omega)) (by omega) (by omega)]; exact hB.np
  · rw [o (a := 2) (by decide) (by decide) (by decide) (by decide), hk 1 2 (relB_1 (by omega)) (by omega) (by omega)]; exact hB.yr
  · rw [addD_1] at he
    by_cases e2 : e = S 1 0 0
    · subst e2; rw [addD_12, h2]; rfl
    · rw [addD_old (by decide) e2, hk 2 e (relB_2 (by omega)) (by omega) (by omega)]; exact hB.ho (by omega)
  · rw [o0] at hp
    rw [o (a := 3) (by decide) (by decide) (by decide) (by decide), hk 3 p (relB_3 (by omega)) (by omega) (by omega)]; exact hB.rk hp
  · unfold hr
    rw [o (a := 4) (by decide) (by decide) (by decide) (by decide), hk 4 p (relB_4 (by omega)) (by omega) (by omega)]; exact hB.here hp
  · rw [o0] at hp
    rw [o (a := 5) (by decide) (by decide) (by decide) (by decide), hk 5 _ (relB_5 (by omega)) (by omega) (by omega)]; exact hB.ps hp hk4
  · rw [o0] at hp
    rw [o (a := 6) (by decide) (by decide) (by decide) (by decide), hk 6 p (relB_6 (by omega)) (by omega) (by omega)]; exact hB.nr hp
  · rw [o0] at hp
    rw [o (a := 6) (by decide) (by decide) (by decide) (by decide)] at hq
    have := hnr p hp
    rw [o (a := 7) (by decide) (by decide) (by decide) (by decide), o (a := 8) (by decide) (by decide) (by decide) (by decide), o (a := 9) (by decide) (by decide) (by decide) (by decide), hk 7 _ (relB_7 (by omega)) (by omega) (by omega), hk 8 _ (relB_8 (by omega)) (by omega) (by omega), hk 9 _ (relB_9 (by omega)) (by omega) (by omega)]
    exact ⟨hB.rs hp hq, hB.ra hp hq, hB.rb hp hq⟩
  · rw [addD_1] at he
    rw [h12 e (by omega), addD_sd S dd kk e (by omega)]
    by_cases e2 : e = S 1 0 0
    · subst e2; rw [addD_10, addD_11]; exact ⟨h10, h11, rfl⟩
    · rw [addD_old (a := 10) (by decide) e2, addD_old (a := 11) (by decide) e2, hk 10 e (relB_10 (by omega)) (by omega) (by omega), hk 11 e (relB_11 (by omega)) (by omega) (by omega)]
      exact ⟨hB.dy (by omega), hB.kd (by omega), rfl⟩
  · rw [o0] at hp
    rw [o (a := 13) (by decide) (by decide) (by decide) (by decide), hk 13 _ (relB_13 (by omega)) (by omega) (by omega)]; exact hB.dl hp he
theorem SB_addDuty {d : Nat} {M : Mm} {S : BS} {Q : Po} (hB : BK M S) {dd kk : Nat} (hdd : dd ≤ 365) (hkk : kk < 4) (hn : S 1 0 0 < 24) (h : ∀ M', EqO [1, 2, 10, 11, 12] M M' → BK M' (addD S dd kk) → Q M' (some (.int (nI (S 1 0 0))))) : Call (d + 4) mB_addDuty [.ref 1, .int (nI dd), .int (nI kk)] M Q := by
  have hw := hB.wf.nd
  have hM1 := hB.nd
  refine Call_of (m := mB_addDuty) [some (.ref 1), some (.int (nI dd)), some (.int (nI kk)), none, none] rfl (fun G => Nat.le_of_ble_eq_true rfl) (fun G => rfl) ?_
  refine g_aload_n dX0_addDuty_0 rfl ?_
  refine g_geti (j := 1) dX0_addDuty_1 gc0 rfl (by decide) rfl (by decide) fl_B_53 ?_
  try simp (disch := omega) only [hB.nd]
  refine g_ist5_3 dX0_addDuty_4 (by decide) rfl ?_
  refine g_iload_n dX0_addDuty_5 rfl ?_
  refine g_if_lt_n 15 dX0_addDuty_6 (by decide) (by omega) ?_
  refine g_iload_n dX0_addDuty_9 rfl ?_
  refine g_bipush (nI 24) dX0_addDuty_10 kb_24 ?_
  refine g_icmp_lt_n 18 dX0_addDuty_12 (by decide) (by omega) (by omega) (fun c12 => ?_) (fun c12 => ?_)
  rotate_left
  · exact absurd c12 (by omega)
  refine g_aload_n dX0_addDuty_18 rfl ?_
  refine g_getr (j := 11) dX0_addDuty_19 gc0 rfl (by decide) rfl (by decide) fl_B_37 ?_
  refine g_iload_n dX0_addDuty_22 rfl ?_
  refine g_iload_n dX0_addDuty_23 rfl ?_
  refine g_iast_n dX0_addDuty_24 (by first | rfl | assumption) (by first | decide | assumption) (by omega) (by omega) ?_
  refine g_aload_n dX0_addDuty_25 rfl ?_
  refine g_getr (j := 12) dX0_addDuty_26 gc0 rfl (by decide) rfl (by decide) fl_B_40 ?_
  refine g_iload_n dX0_addDuty_29 rfl ?_
  refine g_iload_n dX0_addDuty_30 rfl ?_
  refine g_iast_n dX0_addDuty_31 (by first | rfl | assumption) (by first | decide | assumption) (by omega) (by omega) ?_
  refine g_aload_n dX0_addDuty_32 rfl ?_
  refine g_getr (j := 3) dX0_addDuty_33 gc0 rfl (by decide) rfl (by decide) fl_B_9 ?_
  refine g_iload_n dX0_addDuty_36 rfl ?_
  refine g_iconst ((-1)) dX0_addDuty_37 ki_m1 ?_
  refine g_iast_n dX0_addDuty_38 (by first | rfl | assumption) (by first | decide | assumption) (by omega) (by omega) ?_
  refine g_iload_n dX0_addDuty_39 rfl ?_
  refine g_ist5_4 dX0_addDuty_40 (by decide) rfl ?_
  generalize hM0 : mset (mset (mset M 10 (S 1 0 0) (nI dd)) 11 (S 1 0 0) (nI kk)) 2 (S 1 0 0) (-1) = M0
  have k1 : M0 1 1 = nI (S 1 0 0) := by rw [← hM0, mset_off (by omega), mset_off (by omega), mset_off (by omega)]; exact hM1
  have k10 : ∀ s, s < S 1 0 0 → M0 10 s = nI (S 10 s 0) := fun s hs => by rw [← hM0, mset_off (by omega), mset_off (by omega), mset_off (by omega)]; exact hB.dy hs
  have k12 : ∀ s, s < S 1 0 0 → M0 12 s = nI (sd S s) := fun s hs => by rw [← hM0, mset_off (by omega), mset_off (by omega), mset_off (by omega)]; exact hB.st hs
  have hdyf : ∀ i, i < S 1 0 0 → (if sd S i = S 1 0 0 then dd else S 10 (sd S i) 0) = S 10 (sd S i) 0 := fun i hi => by
    have := sd_lt (S := S) (k := i) hi
    rw [if_neg (by omega)]
  suffices hloop : ∀ i, i ≤ S 1 0 0 → ∀ M', (∀ k, k ≠ 12 → M' k = M0 k) → (∀ j, j < i → M' 12 j = nI (sd S j)) → (∀ j, i < j → j ≤ S 1 0 0 → M' 12 j = nI (sd S (j - 1))) → pos (fun j => sd S j) (fun e => if e = S 1 0 0 then dd else S 10 e 0) dd (S 1 0 0) = pos (fun j => sd S j) (fun e => if e = S 1 0 0 then dd else S 10 e 0) dd i → Go mB_addDuty (d + 4) Q 42 [some (.ref 1), some (.int (nI dd)), some (.int (nI kk)), some (.int (nI (S 1 0 0))), some (.int (nI i))] [] M' by
    exact hloop (S 1 0 0) (Nat.le_refl _) M0 (fun _ _ => rfl) k12 (fun j h1 h2 => absurd h2 (by omega)) rfl
  intro i
  induction i with
  | zero =>
    intro hi M' hE hlo hhi hpos
    have e1 : M' 1 1 = nI (S 1 0 0) := by rw [hE 1 (by decide)]; exact k1
    refine g_iload dX0_addDuty_42 rfl ?_
    refine g_if_le_n 81 dX0_addDuty_44 (by decide) (by omega) (fun c44 => ?_) (fun c44 => ?_)
    · refine g_aload_n dX0_addDuty_81 rfl ?_
      refine g_getr (j := 13) dX0_addDuty_82 gc0 rfl (by decide) rfl (by decide) fl_B_43 ?_
      refine g_iload dX0_addDuty_85 rfl ?_
      refine g_iload_n dX0_addDuty_87 rfl ?_
      refine g_iast_n dX0_addDuty_88 (by first | rfl | assumption) (by first | decide | assumption) (by omega) (by omega) ?_
      refine g_aload_n dX0_addDuty_89 rfl ?_
      refine g_dup dX0_addDuty_90 rfl ?_
      refine g_geti (j := 1) dX0_addDuty_91 gc0 rfl (by decide) rfl (by decide) fl_B_53 ?_
      try simp (disch := omega) only [mset_off, e1]
      refine g_iconst (nI 1) dX0_addDuty_94 ki_1 ?_
      first | refine g_iadd_n dX0_addDuty_95 ?_ | refine g_iadd dX0_addDuty_95 ?_
      refine g_puti (j := 1) dX0_addDuty_96 gc0 rfl (by decide) rfl (by decide) fl_B_53 rfl (tyX0_ok 1 (by decide)) (by first | rfl | exact nar_bI _) rfl ?_
      refine g_iload_n dX0_addDuty_99 rfl ?_
      refine g_ireturn dX0_addDuty_100 rfl (by first | rfl | exact nar_bI _) ?_
      refine h _ ?_ (BKaddD hB hdd hkk hn ?_ ?_ ?_ ?_ ?_ ?_)
      · intro k hk
        have h12 : k ≠ 12 := fun e => hk (by subst e; decide)
        have h1 : k ≠ 1 := fun e => hk (by subst e; decide)
        rw [mset_ne h1, mset_ne h12, hE k h12, ← hM0, mset_ne (fun e => hk (by subst e; decide)), mset_ne (fun e => hk (by subst e; decide)), mset_ne (fun e => hk (by subst e; decide))]
      · rw [mset_at]
      · rw [mset_off (by omega), mset_off (by omega), hE 2 (by decide), ← hM0, mset_at]
      · rw [mset_off (by omega), mset_off (by omega), hE 10 (by decide), ← hM0, mset_off (by omega), mset_off (by omega), mset_at]
      · rw [mset_off (by omega), mset_off (by omega), hE 11 (by decide), ← hM0, mset_off (by omega), mset_at]
      · intro k hk
        have hp0 : pos (fun j => sd S j) (fun e => if e = S 1 0 0 then dd else S 10 e 0) ((fun e => if e = S 1 0 0 then dd else S 10 e 0) (S 1 0 0)) (S 1 0 0) = 0 := by
          show pos _ _ (if S 1 0 0 = S 1 0 0 then dd else S 10 (S 1 0 0) 0) _ = 0
          rw [if_pos rfl, hpos]; rfl
        unfold insF
        rw [hp0]
        by_cases e : k = 0
        · subst e; rw [mset_off (by omega), mset_at, if_neg (by omega), if_pos rfl]
        · rw [mset_off (by omega), mset_off (by omega), if_neg (by omega), if_neg e]; exact hhi k (by omega) hk
      · intro k j hrel n1 n12
        unfold relB at hrel
        rw [mset_off (by omega), mset_off (by omega), hE k n12, ← hM0, mset_off (by omega), mset_off (by omega), mset_off (by omega)]
    · exact absurd rfl c44
  | succ i ih =>
    intro hi M' hE hlo hhi hpos
    have e1 : M' 1 1 = nI (S 1 0 0) := by rw [hE 1 (by decide)]; exact k1
    have hs := sd_lt (S := S) (k := i) (by omega)
    have e12 : M' 12 i = nI (sd S i) := hlo i (by omega)
    have hdk := hB.wf.dk (d := sd S i) (by omega)
    have hdone : ¬ dd < S 10 (sd S i) 0 → ∀ k, k ≤ S 1 0 0 → mset M' 12 (i + 1) (nI (S 1 0 0)) 12 k = nI (insF (fun j => sd S j) (fun e => if e = S 1 0 0 then dd else S 10 e 0) (S 1 0 0) (S 1 0 0) k) := fun hnot k hk => by
      have hp0 : pos (fun j => sd S j) (fun e => if e = S 1 0 0 then dd else S 10 e 0) ((fun e => if e = S 1 0 0 then dd else S 10 e 0) (S 1 0 0)) (S 1 0 0) = i + 1 := by
        show pos _ _ (if S 1 0 0 = S 1 0 0 then dd else S 10 (S 1 0 0) 0) _ = i + 1
        rw [if_pos rfl, hpos]
        exact pos_stop (by show ¬ dd < if sd S i = S 1 0 0 then dd else S 10 (sd S i) 0; rw [hdyf i (by omega)]; exact hnot)
      unfold insF
      rw [hp0]
      by_cases e : k = i + 1
      · subst e; rw [mset_at, if_neg (by omega), if_pos rfl]
      · rw [mset_off (by omega)]
        rcases Nat.lt_or_ge k (i + 1) with q | q
        · rw [if_pos q]; exact hlo k q
        · rw [if_neg (by omega), if_neg e]; exact hhi k (by omega) hk
    refine g_iload dX0_addDuty_42 rfl ?_
    refine g_if_le_n 81 dX0_addDuty_44 (by decide) (by omega) (fun c44 => ?_) (fun c44 => ?_)
    · exact absurd c44 (by omega)
    · refine g_aload_n dX0_addDuty_47 rfl ?_
      refine g_iload dX0_addDuty_48 rfl ?_
      refine g_iconst (nI 1) dX0_addDuty_50 ki_1 ?_
      first | refine g_isub_n dX0_addDuty_51 (by omega) ?_ | refine g_isub dX0_addDuty_51 ?_
      refine g_call1 dX0_addDuty_52 clB_dayAt ml_B_112 gc0 rfl rfl (by decide) (Nat.le_of_ble_eq_true rfl) ?_
      rw [show i + 1 - 1 = i by omega]
      refine SB_dayAtL e1 hw (by omega) e12 hs (by rw [hE 10 (by decide)]; exact k10 _ hs) ?_
      refine g_iload_n dX0_addDuty_55 rfl ?_
      refine g_icmp_le_n 81 dX0_addDuty_56 (by decide) (by omega) (by omega) (fun c56 => ?_) (fun c56 => ?_)
      · refine g_aload_n dX0_addDuty_81 rfl ?_
        refine g_getr (j := 13) dX0_addDuty_82 gc0 rfl (by decide) rfl (by decide) fl_B_43 ?_
        refine g_iload dX0_addDuty_85 rfl ?_
        refine g_iload_n dX0_addDuty_87 rfl ?_
        refine g_iast_n dX0_addDuty_88 (by first | rfl | assumption) (by first | decide | assumption) (by omega) (by omega) ?_
        refine g_aload_n dX0_addDuty_89 rfl ?_
        refine g_dup dX0_addDuty_90 rfl ?_
        refine g_geti (j := 1) dX0_addDuty_91 gc0 rfl (by decide) rfl (by decide) fl_B_53 ?_
        try simp (disch := omega) only [mset_off, e1, e12]
        refine g_iconst (nI 1) dX0_addDuty_94 ki_1 ?_
        first | refine g_iadd_n dX0_addDuty_95 ?_ | refine g_iadd dX0_addDuty_95 ?_
        refine g_puti (j := 1) dX0_addDuty_96 gc0 rfl (by decide) rfl (by decide) fl_B_53 rfl (tyX0_ok 1 (by decide)) (by first | rfl | exact nar_bI _) rfl ?_
        refine g_iload_n dX0_addDuty_99 rfl ?_
        refine g_ireturn dX0_addDuty_100 rfl (by first | rfl | exact nar_bI _) ?_
        refine h _ ?_ (BKaddD hB hdd hkk hn ?_ ?_ ?_ ?_ ?_ ?_)
        · intro k hk
          have h12 : k ≠ 12 := fun e => hk (by subst e; decide)
          have h1 : k ≠ 1 := fun e => hk (by subst e; decide)
          rw [mset_ne h1, mset_ne h12, hE k h12, ← hM0, mset_ne (fun e => hk (by subst e; decide)), mset_ne (fun e => hk (by subst e; decide)), mset_ne (fun e => hk (by subst e; decide))]
        · rw [mset_at]
        · rw [mset_off (by omega), mset_off (by omega), hE 2 (by decide), ← hM0, mset_at]
        · rw [mset_off (by omega), mset_off (by omega), hE 10 (by decide), ← hM0, mset_off (by omega), mset_off (by omega), mset_at]
        · rw [mset_off (by omega), mset_off (by omega), hE 11 (by decide), ← hM0, mset_off (by omega), mset_at]
        · intro k hk
          rw [mset_off (by omega)]; exact hdone (by omega) k hk
        · intro k j hrel n1 n12
          unfold relB at hrel
          rw [mset_off (by omega), mset_off (by omega), hE k n12, ← hM0, mset_off (by omega), mset_off (by omega), mset_off (by omega)]
      · refine g_aload_n dX0_addDuty_59 rfl ?_
        refine g_getr (j := 13) dX0_addDuty_60 gc0 rfl (by decide) rfl (by decide) fl_B_43 ?_
        refine g_iload dX0_addDuty_63 rfl ?_
        refine g_aload_n dX0_addDuty_65 rfl ?_
        refine g_getr (j := 13) dX0_addDuty_66 gc0 rfl (by decide) rfl (by decide) fl_B_43 ?_
        refine g_iload dX0_addDuty_69 rfl ?_
        refine g_iconst (nI 1) dX0_addDuty_71 ki_1 ?_
        first | refine g_isub_n dX0_addDuty_72 (by omega) ?_ | refine g_isub dX0_addDuty_72 ?_
        refine g_iald_n dX0_addDuty_73 (by first | rfl | assumption) (by first | decide | assumption) (by omega) (by omega) ?_
        try simp (disch := omega) only [mset_off, e1, e12]
        refine g_iast_n dX0_addDuty_74 (by first | rfl | assumption) (by first | decide | assumption) (by omega) (by omega) ?_
        first | refine g_incp5_4 dX0_addDuty_75 ki_m1 (by omega) (by decide) rfl ?_ | refine g_incg5_4 (-1) dX0_addDuty_75 ki_m1 (by decide) rfl ?_
        refine g_goto 42 dX0_addDuty_78 (by decide) ?_
        refine ih (by omega) _ ?_ ?_ ?_ ?_
        · intro k hk; rw [mset_ne hk]; exact hE k hk
        · intro j hj; rw [mset_off (by omega)]; exact hlo j (by omega)
        · intro j h1 h2
          by_cases e : j = i + 1
          · subst e; rw [mset_at, show i + 1 - 1 = i by omega]; exact e12
          · rw [mset_off (by omega)]; exact hhi j (by omega) h2
        · rw [hpos]; exact pos_step (by show dd < if sd S i = S 1 0 0 then dd else S 10 (sd S i) 0; rw [hdyf i (by omega)]; omega)
/-! BOOK: a YEAR is closed, copies -/
def cloI (S : BS) (n k : Nat) : BS := fun a b c => if a = 5 ∧ c < 4 ∧ (b < n ∨ (b = n ∧ c < k)) then min (S 5 b c + heldN S b c) 999 else S a b c
theorem cloI_oth {S : BS} {n k a : Nat} (h : a ≠ 5) : cloI S n k a = S a := by funext b c; unfold cloI; rw [if_neg (fun q => h q.1)]
theorem BKpast {M M' : Mm} {S S' : BS} (hB : BK M S) (hM : ∀ k, k ≠ 5 → M' k = M k) (hS : ∀ a, a ≠ 5 → S' a = S a) (h5 : ∀ p k, p < S 0 0 0 → k < 4 → M' 5 (p * 4 + k) = nI (S' 5 p k)) (h9 : ∀ p k, p < 8 → k < 4 → S' 5 p k ≤ 999) : BK M' S' := by
  have h0 := hS 0 (by decide)
  have h1 := hS 1 (by decide)
  have h10 := hS 10 (by decide)
  have h4 := hS 4 (by decide)
  have hsd : ∀ k, sd S' k = sd S k := fun k => by simp only [sd, h1, h10]
  obtain ⟨w, a1, a2, a3, a4, a5, a6, a7, a8, a9, a10, a11⟩ := hB
  refine ⟨?_, ?_, ?_, ?_, ?_, ?_, ?_, ?_, ?_, ?_, ?_, ?_⟩
  · obtain ⟨b1, b2, b3, b4, b5, b6, b7, b8, b9, b10, b11⟩ := w
    simp only [WF, h0, h1, h4, hS 3 (by decide), hS 6 (by decide), hS 7 (by decide), hS 8 (by decide), hS 9 (by decide), h10, hS 11 (by decide), hS 12 (by decide), hS 13 (by decide)]
    exact ⟨b1, b2, b3, b4, b5, h9, b7, b8, b9, b10, b11⟩
  · rw [hM 1 (by decide)]; simp only [h0]; exact a1
  · rw [hM 1 (by decide)]; simp only [h1]; exact a2
  · rw [hM 1 (by decide)]; simp only [hS 2 (by decide)]; exact a3
  · rw [hM 2 (by decide)]; simp only [h1, hS 12 (by decide)]; exact a4
  · rw [hM 3 (by decide)]; simp only [h0, hS 3 (by decide)]; exact a5
  · rw [hM 4 (by decide)]; simp only [hr, h4]; exact a6
  · simp only [h0]; exact h5
  · rw [hM 6 (by decide)]; simp only [h0, hS 6 (by decide)]; exact a8
  · rw [hM 7 (by decide), hM 8 (by decide), hM 9 (by decide)]; simp only [h0, hS 6 (by decide), hS 7 (by decide), hS 8 (by decide), hS 9 (by decide)]; exact a9
  · rw [hM 10 (by decide), hM 11 (by decide), hM 12 (by decide)]; simp only [h1, h10, hS 11 (by decide), hsd]; exact a10
  · rw [hM 13 (by decide)]; simp only [h0, hS 13 (by decide)]; exact a11
theorem BKpast1 {M : Mm} {S : BS} (hB : BK M S) {p k v : Nat} (hp : p < S 0 0 0) (hk : k < 4) (hv : v ≤ 999) : BK (mset M 5 (p * 4 + k) (nI v)) (up S 5 p k v) := by
  have hw := hB.wf.np
  refine BKpast hB (fun k hk => mset_ne hk) (fun a ha => ?_) (fun q j hq hj => ?_) (fun q j hq hj => ?_)
  · funext b c; exact up_off (fun q => ha q.1)
  · by_cases e2 : q = p ∧ j = k
    · obtain ⟨rfl, rfl⟩ := e2; rw [mset_at, up_at]
    · rw [mset_off (by omega), up_off (by omega)]; exact hB.ps hq hj
  · by_cases e2 : q = p ∧ j = k
    · obtain ⟨rfl, rfl⟩ := e2; rw [up_at]; exact hv
    · rw [up_off (by omega)]; exact hB.wf.ps hq hj
theorem cloI_held (S : BS) (n k p j : Nat) : heldN (cloI S n k) p j = heldN S p j := by
  simp only [heldN, heldF, cloI_oth (show (1 : Nat) ≠ 5 by decide), cloI_oth (show (11 : Nat) ≠ 5 by decide), cloI_oth (show (12 : Nat) ≠ 5 by decide)]
theorem cloI_step (S : BS) (n k : Nat) (hk : k < 4) : cloI S n (k + 1) = up (cloI S n k) 5 n k (min (S 5 n k + heldN S n k) 999) := by
  funext a b c
  by_cases q : a = 5 ∧ b = n ∧ c = k
  · obtain ⟨rfl, rfl, rfl⟩ := q
    rw [up_at]
    unfold cloI
    rw [if_pos ⟨rfl, hk, Or.inr ⟨rfl, by omega⟩⟩]
  · rw [up_off q]
    unfold cloI
    by_cases z : a = 5 ∧ c < 4 ∧ (b < n ∨ (b = n ∧ c < k))
    · rw [if_pos z, if_pos ⟨z.1, z.2.1, by omega⟩]
    · rw [if_neg z, if_neg (by omega)]
theorem nI_min (a b : Nat) (ha : a < 2 ^ 31) (hb : b < 2 ^ 31) : (if nI b < nI a then nI b else nI a) = nI (min a b) := by
  by_cases h : b < a
  · rw [if_pos ((nI_ltI hb ha).mpr h), Nat.min_eq_right (by omega)]
  · rw [if_neg (fun q => h ((nI_ltI hb ha).mp q)), Nat.min_eq_left (by omega)]
/-- the state behind a closed YEAR -/
def cloS (S : BS) : BS := fun a b c => if a = 1 then 0 else if a = 2 then S 2 0 0 + 1 else if a = 5 ∧ b < S 0 0 0 ∧ c < 4 then min (S 5 b c + heldN S b c) 999 else if a = 13 then 0 else S a b c
theorem BKclose {M M' : Mm} {S : BS} (hB : BK M S) (h1 : M' 1 1 = nI 0) (h2 : M' 1 2 = nI (S 2 0 0 + 1)) (h0 : M' 1 0 = nI (S 0 0 0)) (h5 : ∀ p k, p < S 0 0 0 → k < 4 → M' 5 (p * 4 + k) = nI (min (S 5 p k + heldN S p k) 999)) (h13 : ∀ j, j < 192 → M' 13 j = nI 0) (hk : ∀ k, k ≠ 1 → k ≠ 5 → k ≠ 13 → M' k = M k) : BK M' (cloS S) := by
  have o : ∀ {a b c : Nat}, a ≠ 1 → a ≠ 2 → a ≠ 5 → a ≠ 13 → cloS S a b c = S a b c := fun h1 h2 h5 h13 => by
    unfold cloS; rw [if_neg h1, if_neg h2, if_neg (fun q => h5 q.1), if_neg h13]
  have o1 : cloS S 1 0 0 = 0 := rfl
  have o2 : cloS S 2 0 0 = S 2 0 0 + 1 := rfl
  have o5 : ∀ p k, p < S 0 0 0 → k < 4 → cloS S 5 p k = min (S 5 p k + heldN S p k) 999 := fun p k hp hk => by
    unfold cloS; rw [if_neg (by decide), if_neg (by decide), if_pos ⟨rfl, hp, hk⟩]
  have o13 : ∀ p d, cloS S 13 p d = 0 := fun p d => by
    unfold cloS; rw [if_neg (by decide), if_neg (by decide), if_neg (fun q => absurd q.1 (by decide)), if_pos rfl]
  have o0 : cloS S 0 0 0 = S 0 0 0 := o (by decide) (by decide) (by decide) (by decide)
  have hw := hB.wf.np
  refine ⟨⟨?_, ?_, fun p hp => ?_, fun p hp => ?_, fun p hp => ?_, fun p k hp hk => ?_, fun p hp => ?_, fun p q hp hq => ?_, fun e he => ?_, fun p d hp hd => ?_, fun p d hd => ?_⟩, ?_, ?_, ?_, fun e he => ?_, fun p hp => ?_, fun p hp => ?_, fun p k hp hk4 => ?_, fun p hp => ?_, fun p q hp hq => ?_, fun e he => ?_, fun p e hp he => ?_⟩
  · rw [o0]; exact hw
  · rw [o1]; omega
  · rw [o (by decide) (by decide) (by decide) (by decide)]; exact hB.wf.hN hp
  · rw [o0] at hp; rw [o (by decide) (by decide) (by decide) (by decide)]; exact hB.wf.out hp
  · rw [o (by decide) (by decide) (by decide) (by decide)]; exact hB.wf.rk hp
  · rcases Nat.lt_or_ge p (S 0 0 0) with z | z
    · rw [o5 p k z hk]; exact Nat.min_le_right _ _
    · have : cloS S 5 p k = S 5 p k := by
        unfold cloS; rw [if_neg (by decide), if_neg (by decide), if_neg (by omega), if_neg (by decide)]
      rw [this]; exact hB.wf.ps hp hk
  · rw [o (by decide) (by decide) (by decide) (by decide)]; exact hB.wf.nr hp
  · rw [o (a := 7) (by decide) (by decide) (by decide) (by decide), o (a := 8) (by decide) (by decide) (by decide) (by decide), o (a := 9) (by decide) (by decide) (by decide) (by decide)]; exact hB.wf.rl hp hq
  · rw [o (a := 10) (by decide) (by decide) (by decide) (by decide), o (a := 11) (by decide) (by decide) (by decide) (by decide), o (a := 12) (by decide) (by decide) (by decide) (by decide)]; exact hB.wf.dk he
  · rw [o13]; omega
  · rw [o13]
  · rw [o0]; exact h0
  · rw [o1]; exact h1
  · rw [o2]; exact h2
  · rw [o1] at he; omega
  · rw [o0] at hp
    rw [o (by decide) (by decide) (by decide) (by decide), hk 3 (by decide) (by decide) (by decide)]; exact hB.rk hp
  · unfold hr
    rw [o (by decide) (by decide) (by decide) (by decide), hk 4 (by decide) (by decide) (by decide)]; exact hB.here hp
  · rw [o0] at hp
    rw [o5 p k hp hk4]; exact h5 p k hp hk4
  · rw [o0] at hp
    rw [o (by decide) (by decide) (by decide) (by decide), hk 6 (by decide) (by decide) (by decide)]; exact hB.nr hp
  · rw [o0] at hp
    rw [o (a := 6) (by decide) (by decide) (by decide) (by decide)] at hq
    rw [o (a := 7) (by decide) (by decide) (by decide) (by decide), o (a := 8) (by decide) (by decide) (by decide) (by decide), o (a := 9) (by decide) (by decide) (by decide) (by decide), hk 7 (by decide) (by decide) (by decide), hk 8 (by decide) (by decide) (by decide), hk 9 (by decide) (by decide) (by decide)]
    exact ⟨hB.rs hp hq, hB.ra hp hq, hB.rb hp hq⟩
  · rw [o1] at he; omega
  · rw [o0] at hp
    rw [o13]; exact h13 _ (by omega)
/-- fewer locals known -/
def subL : Lv → Lv → Prop
  | [], _ => True
  | none :: l', _ :: l => subL l' l
  | some v :: l', o :: l => o = some v ∧ subL l' l
  | none :: l', [] => subL l' []
  | some _ :: _, [] => False
theorem subL_get : ∀ {l' l : Lv}, subL l' l → ∀ (k : Nat) (v : Value), l'[k]? = some (some v) → l[k]? = some (some v)
  | [], _, _, k, v, h => by simp at h
  | none :: l', _ :: l, hs, 0, v, h => by simp at h
  | none :: l', _ :: l, hs, k + 1, v, h => by
    rw [List.getElem?_cons_succ] at h ⊢
    exact subL_get (l' := l') (l := l) hs k v h
  | some w :: l', o :: l, hs, 0, v, h => by
    rw [List.getElem?_cons_zero] at h ⊢
    rw [hs.1]; exact h
  | some w :: l', o :: l, hs, k + 1, v, h => by
    rw [List.getElem?_cons_succ] at h ⊢
    exact subL_get (l' := l') (l := l) hs.2 k v h
  | none :: l', [], hs, 0, v, h => by simp at h
  | none :: l', [], hs, k + 1, v, h => by
    rw [List.getElem?_cons_succ] at h
    have := subL_get (l' := l') (l := []) hs k v h
    simp at this
  | some w :: l', [], hs, k, v, h => by cases hs
theorem Go_sub {m : Me} {d : Nat} {Q : Po} {pc : Nat} {ls : Lv} {st : St} {M : Mm} (ls' : Lv) (hs : subL ls' ls) (h : Go m d Q pc ls' st M) : Go m d Q pc ls st M := by
  intro p l e s mi args below meth c G sz hF hK hS hz H locs arr hP hD hFr hl
  refine h p l e s mi args below meth c G sz hF hK hS hz H locs arr hP hD hFr ⟨hl.1, hl.2.1, fun q hq => ?_⟩
  obtain ⟨v, h1, h2⟩ := lvl_inv hq
  obtain ⟨q1, q2⟩ := q
  dsimp only at h1 h2 ⊢
  subst h2
  exact hl.2.2 (q1, cv G v) (lvl_mem (subL_get hs q1 v h1))
theorem SB_closeYear {d : Nat} {M : Mm} {S : BS} {Q : Po} (hB : BK M S) (h : ∀ M', EqO [1, 5, 13] M M' → BK M' (cloS S) → Q M' none) : Call (d + 3) mB_closeYear [.ref 1] M Q := by
  have hw := hB.wf.np
  have e0 : ∀ n k, cloI S n k 0 0 0 = S 0 0 0 := fun n k => by rw [cloI_oth (by decide)]
  refine Call_of (m := mB_closeYear) [some (.ref 1), none, none, none] rfl (fun G => Nat.le_of_ble_eq_true rfl) (fun G => rfl) ?_
  refine g_iconst (nI 0) dX0_closeYear_0 ki_0 ?_
  refine g_ist4_1 dX0_closeYear_1 (by decide) rfl ?_
  refine loop_up (P := fun i => ∀ M', EqO [5] M M' → BK M' (cloI S i 0) → Go mB_closeYear (d + 3) Q 2 [some (.ref 1), some (.int (nI i)), none, none] [] M') (S 0 0 0) ?_ 0 (Nat.zero_le _) M EqO.rf ?_
  rotate_left
  · rw [show cloI S 0 0 = S from ?_]
    · exact hB
    · funext a b c; unfold cloI; rw [if_neg (by omega)]
  intro i hi ih M' hE hB'
  refine g_iload_n dX0_closeYear_2 rfl ?_
  refine g_aload_n dX0_closeYear_3 rfl ?_
  refine g_geti (j := 0) dX0_closeYear_4 gc0 rfl (by decide) rfl (by decide) fl_B_49 ?_
  try simp (disch := omega) only [hB'.np, e0]
  refine g_icmp_ge_n 60 dX0_closeYear_7 (by decide) (by omega) (by omega) (fun c7 => ?_) (fun c7 => ?_)
  · obtain rfl : i = S 0 0 0 := by omega
    refine g_iconst (nI 0) dX0_closeYear_60 ki_0 ?_
    refine g_ist4_1 dX0_closeYear_61 (by decide) rfl ?_
    refine loop_up (P := fun j => ∀ M2, (∀ k, k ≠ 13 → M2 k = M' k) → (∀ e, e < j → M2 13 e = nI 0) → Go mB_closeYear (d + 3) Q 62 [some (.ref 1), some (.int (nI j)), none, none] [] M2) 192 ?_ 0 (Nat.zero_le _) M' (fun _ _ => rfl) (fun e he => absurd he (by omega))
    intro j hj jh M2 h2 h13
    refine g_iload_n dX0_closeYear_62 rfl ?_
    refine g_aload_n dX0_closeYear_63 rfl ?_
    refine g_getr (j := 14) dX0_closeYear_64 gc0 rfl (by decide) rfl (by decide) fl_B_46 ?_
    refine g_alen dX0_closeYear_67 (by first | rfl | assumption) (by first | decide | assumption) ?_
    refine g_icmp_ge_n 84 dX0_closeYear_68 (by decide) (by omega) (by omega) (fun c68 => ?_) (fun c68 => ?_)
    · have ey : M2 1 2 = nI (S 2 0 0) := by
        rw [h2 1 (by decide)]
        have := hB'.yr
        rw [cloI_oth (by decide)] at this
        exact this
      refine g_aload_n dX0_closeYear_84 rfl ?_
      refine g_iconst (nI 0) dX0_closeYear_85 ki_0 ?_
      refine g_puti (j := 1) dX0_closeYear_86 gc0 rfl (by decide) rfl (by decide) fl_B_53 rfl (tyX0_ok 1 (by decide)) (by first | rfl | exact nar_bI _) rfl ?_
      refine g_aload_n dX0_closeYear_89 rfl ?_
      refine g_dup dX0_closeYear_90 rfl ?_
      refine g_geti (j := 2) dX0_closeYear_91 gc0 rfl (by decide) rfl (by decide) fl_B_139 ?_
      try simp (disch := omega) only [mset_off, ey]
      refine g_iconst (nI 1) dX0_closeYear_94 ki_1 ?_
      first | refine g_iadd_n dX0_closeYear_95 ?_ | refine g_iadd dX0_closeYear_95 ?_
      refine g_puti (j := 2) dX0_closeYear_96 gc0 rfl (by decide) rfl (by decide) fl_B_139 rfl (tyX0_ok 2 (by decide)) (by first | rfl | exact nar_bI _) rfl ?_
      refine g_return dX0_closeYear_99 rfl ?_
      refine h _ ?_ (BKclose hB ?_ ?_ ?_ ?_ ?_ ?_)
      · intro k hk
        have n1 : k ≠ 1 := fun e => hk (by subst e; decide)
        rw [mset_ne n1, mset_ne n1, h2 k (fun e => hk (by subst e; decide)), hE k (fun e => hk (by revert e; simp only [List.mem_cons, List.not_mem_nil, or_false]; intro e; exact Or.inr (Or.inl e)))]
      · rw [mset_off (by omega), mset_at]
      · rw [mset_at]
      · rw [mset_off (by omega), mset_off (by omega), h2 1 (by decide)]
        have := hB'.np
        rw [e0] at this
        exact this
      · intro p k hp hk
        rw [mset_off (by omega), mset_off (by omega), h2 5 (by decide)]
        have := hB'.ps (p := p) (k := k) (by rw [e0]; exact hp) hk
        rw [this]
        unfold cloI
        rw [if_pos ⟨rfl, hk, Or.inl hp⟩]
      · intro e he
        rw [mset_off (by omega), mset_off (by omega)]; exact h13 e (by omega)
      · intro k n1 n5 n13
        rw [mset_ne n1, mset_ne n1, h2 k n13, hE k (by simpa using n5)]
    · refine g_aload_n dX0_closeYear_71 rfl ?_
      refine g_getr (j := 14) dX0_closeYear_72 gc0 rfl (by decide) rfl (by decide) fl_B_46 ?_
      refine g_iload_n dX0_closeYear_75 rfl ?_
      refine g_iconst (nI 0) dX0_closeYear_76 ki_0 ?_
      refine g_iast_n dX0_closeYear_77 (by first | rfl | assumption) (by first | decide | assumption) (by omega) (by omega) ?_
      first | refine g_incn4_1 dX0_closeYear_78 ki_1 (by decide) rfl ?_ | refine g_incg4_1 (nI 1) dX0_closeYear_78 ki_1 (by decide) rfl ?_
      refine g_goto 62 dX0_closeYear_81 (by decide) ?_
      refine jh (by omega) _ (fun k hk => by rw [mset_ne hk]; exact h2 k hk) (fun e he => ?_)
      by_cases e2 : e = j
      · subst e2; rw [mset_at]
      · rw [mset_off (by omega)]; exact h13 e (by omega)
  · refine g_iconst (nI 0) dX0_closeYear_10 ki_0 ?_
    refine g_ist4_2 dX0_closeYear_11 (by decide) rfl ?_
    refine loop_up (P := fun j => ∀ M', EqO [5] M M' → BK M' (cloI S i j) → Go mB_closeYear (d + 3) Q 12 [some (.ref 1), some (.int (nI i)), some (.int (nI j)), none] [] M') 4 ?_ 0 (Nat.zero_le _) M' hE hB'
    intro j hj jh M2 hE2 hB2
    refine g_iload_n dX0_closeYear_12 rfl ?_
    refine g_iconst (nI 4) dX0_closeYear_13 ki_4 ?_
    refine g_icmp_ge_n 54 dX0_closeYear_14 (by decide) (by omega) (by omega) (fun c14 => ?_) (fun c14 => ?_)
    · first | refine g_incn4_1 dX0_closeYear_54 ki_1 (by decide) rfl ?_ | refine g_incg4_1 (nI 1) dX0_closeYear_54 ki_1 (by decide) rfl ?_
      refine g_goto 2 dX0_closeYear_57 (by decide) ?_
      refine Go_sub [some (.ref 1), some (.int (nI (i + 1))), none, none] (by simp [subL]) (ih (by omega) _ hE2 ?_)
      rw [show cloI S (i + 1) 0 = cloI S i j from ?_]
      · exact hB2
      · have : j = 4 := by omega
        subst this
        funext a b c
        unfold cloI
        by_cases z : a = 5 ∧ c < 4 ∧ (b < i ∨ (b = i ∧ c < 4))
        · rw [if_pos z, if_pos (by omega)]
        · rw [if_neg z, if_neg (by omega)]
    · have hps : cloI S i j 5 i j = S 5 i j := by unfold cloI; rw [if_neg (by omega)]
      have hb1 := hB.wf.ps (p := i) (k := j) (by omega) (by omega)
      have hb2 := heldF_le S (fun d => S 12 d 0) i j
      have hb3 := hB.wf.nd
      have hb4 : heldN S i j ≤ 24 := by unfold heldN; omega
      refine g_aload_n dX0_closeYear_17 rfl ?_
      refine g_iload_n dX0_closeYear_18 rfl ?_
      refine g_iload_n dX0_closeYear_19 rfl ?_
      refine g_call2 dX0_closeYear_20 clB_pastOf ml_B_82 gc0 rfl rfl (by decide) (Nat.le_of_ble_eq_true rfl) ?_
      refine SB_pastOf hB2 (by rw [e0]; omega) (by omega) ?_
      refine g_aload_n dX0_closeYear_23 rfl ?_
      refine g_aload_n dX0_closeYear_24 rfl ?_
      refine g_getr (j := 3) dX0_closeYear_25 gc0 rfl (by decide) rfl (by decide) fl_B_9 ?_
      refine g_iload_n dX0_closeYear_28 rfl ?_
      refine g_iload_n dX0_closeYear_29 rfl ?_
      refine g_call3 dX0_closeYear_30 clB_countHeld ml_B_96 gc0 rfl rfl (by decide) (Nat.le_of_ble_eq_true rfl) ?_
      refine SB_countHeldP hB2 (by omega) (by omega) ?_
      rw [cloI_held, hps]
      first | refine g_iadd_n dX0_closeYear_33 ?_ | refine g_iadd dX0_closeYear_33 ?_
      refine g_ist4_3 dX0_closeYear_34 (by decide) rfl ?_
      refine g_aload_n dX0_closeYear_35 rfl ?_
      refine g_iload_n dX0_closeYear_36 rfl ?_
      refine g_iload_n dX0_closeYear_37 rfl ?_
      refine g_iload_n dX0_closeYear_38 rfl ?_
      refine g_sipush (nI 999) dX0_closeYear_39 ks_999 ?_
      refine g_mmin dX0_closeYear_42 mm_B_132 ms_min ti_java_lang_Math mc_min (Nat.le_of_ble_eq_true rfl) ?_
      rw [nI_min _ _ (by omega) (by omega)]
      refine g_call3 dX0_closeYear_45 clB_putPast ml_B_135 gc0 rfl rfl (by decide) (Nat.le_of_ble_eq_true rfl) ?_
      refine SB_putPast hB2 (by rw [e0]; omega) (by omega) ?_
      first | refine g_incn4_2 dX0_closeYear_48 ki_1 (by decide) rfl ?_ | refine g_incg4_2 (nI 1) dX0_closeYear_48 ki_1 (by decide) rfl ?_
      refine g_goto 12 dX0_closeYear_51 (by decide) ?_
      refine Go_sub [some (.ref 1), some (.int (nI i)), some (.int (nI (j + 1))), none] (by simp [subL]) (jh (by omega) _ (hE2.tr (EqO.set (by decide))) ?_)
      rw [cloI_step _ _ _ (by omega)]
      exact BKpast1 hB2 (by rw [e0]; omega) (by omega) (Nat.min_le_right _ _)
/-! THE REFERENCE: its row holds the state; what it asks -/
/-- without duties, what stands where the first one would -/
def MX (w : Nat → Int32) (n : Nat) : Prop := n = 0 → ∃ a k q x : Nat, a ≤ 365 ∧ k ≤ 3 ∧ q ≤ 8 ∧ x ≤ 9 ∧ w 251 = nI a ∧ w 275 = nI k ∧ w 299 = hv q ∧ (q < 8 → w (323 + 24 * q) = nI x)
theorem MX.pos {w : Nat → Int32} {n : Nat} (h : 0 < n) : MX w n := fun z => absurd z (by omega)
theorem MX.keep {w w' : Nat → Int32} {n : Nat} (h : MX w n) (hk : ∀ j, (j = 251 ∨ j = 275 ∨ j = 299 ∨ (323 ≤ j ∧ j < 515)) → w' j = w j) : MX w' n := by
  intro z
  obtain ⟨a, k, q, x, h1, h2, h3, h4, h5, h6, h7, h8⟩ := h z
  refine ⟨a, k, q, x, h1, h2, h3, h4, ?_, ?_, ?_, fun hq => ?_⟩
  · rw [hk 251 (by omega)]; exact h5
  · rw [hk 275 (by omega)]; exact h6
  · rw [hk 299 (by omega)]; exact h7
  · rw [hk _ (by omega)]; exact h8 hq
def MK (w : Nat → Int32) (S : BS) : Prop := WF S ∧ w 0 = nI (S 0 0 0) ∧ w 1 = nI (S 2 0 0) ∧ w 2 = nI (S 1 0 0) ∧ (∀ p, p < S 0 0 0 → w (3 + p) = nI (S 4 p 0) ∧ w (11 + p) = nI (S 3 p 0) ∧ w (51 + p) = nI (S 6 p 0)) ∧ (∀ p k, p < S 0 0 0 → k < 4 → w (19 + 4 * p + k) = nI (S 5 p k)) ∧
  (∀ p r, p < S 0 0 0 → r < S 6 p 0 → w (59 + 24 * p + 3 * r) = nI (S 7 p r) ∧ w (59 + 24 * p + 3 * r + 1) = nI (S 8 p r) ∧ (S 7 p r ≠ 1 → w (59 + 24 * p + 3 * r + 2) = nI (S 9 p r))) ∧ (∀ d, d < S 1 0 0 → w (251 + d) = nI (S 10 d 0) ∧ w (275 + d) = nI (S 11 d 0) ∧ w (299 + d) = hv (S 12 d 0)) ∧ (∀ p d, p < S 0 0 0 → d < S 1 0 0 → w (323 + 24 * p + d) = nI (S 13 p d)) ∧ MX w (S 1 0 0)
theorem MK.wf {w : Nat → Int32} {S : BS} (h : MK w S) : WF S := h.1
theorem MK.np {w : Nat → Int32} {S : BS} (h : MK w S) : w 0 = nI (S 0 0 0) := h.2.1
theorem MK.yr {w : Nat → Int32} {S : BS} (h : MK w S) : w 1 = nI (S 2 0 0) := h.2.2.1
theorem MK.nd {w : Nat → Int32} {S : BS} (h : MK w S) : w 2 = nI (S 1 0 0) := h.2.2.2.1
theorem MK.hN {w : Nat → Int32} {S : BS} (h : MK w S) {p : Nat} (hp : p < S 0 0 0) : w (3 + p) = nI (S 4 p 0) := (h.2.2.2.2.1 p hp).1
theorem MK.rk {w : Nat → Int32} {S : BS} (h : MK w S) {p : Nat} (hp : p < S 0 0 0) : w (11 + p) = nI (S 3 p 0) := (h.2.2.2.2.1 p hp).2.1
theorem MK.nr {w : Nat → Int32} {S : BS} (h : MK w S) {p : Nat} (hp : p < S 0 0 0) : w (51 + p) = nI (S 6 p 0) := (h.2.2.2.2.1 p hp).2.2
theorem MK.ps {w : Nat → Int32} {S : BS} (h : MK w S) {p k : Nat} (hp : p < S 0 0 0) (hk : k < 4) : w (19 + 4 * p + k) = nI (S 5 p k) := h.2.2.2.2.2.1 p k hp hk
theorem MK.rs {w : Nat → Int32} {S : BS} (h : MK w S) {p r : Nat} (hp : p < S 0 0 0) (hr : r < S 6 p 0) : w (59 + 24 * p + 3 * r) = nI (S 7 p r) := (h.2.2.2.2.2.2.1 p r hp hr).1
theorem MK.ra {w : Nat → Int32} {S : BS} (h : MK w S) {p r : Nat} (hp : p < S 0 0 0) (hr : r < S 6 p 0) : w (59 + 24 * p + 3 * r + 1) = nI (S 8 p r) := (h.2.2.2.2.2.2.1 p r hp hr).2.1
theorem MK.rb {w : Nat → Int32} {S : BS} (h : MK w S) {p r : Nat} (hp : p < S 0 0 0) (hr : r < S 6 p 0) (h1 : S 7 p r ≠ 1) : w (59 + 24 * p + 3 * r + 2) = nI (S 9 p r) := (h.2.2.2.2.2.2.1 p r hp hr).2.2 h1
theorem MK.dy {w : Nat → Int32} {S : BS} (h : MK w S) {d : Nat} (hd : d < S 1 0 0) : w (251 + d) = nI (S 10 d 0) := (h.2.2.2.2.2.2.2.1 d hd).1
theorem MK.kd {w : Nat → Int32} {S : BS} (h : MK w S) {d : Nat} (hd : d < S 1 0 0) : w (275 + d) = nI (S 11 d 0) := (h.2.2.2.2.2.2.2.1 d hd).2.1
theorem MK.ho {w : Nat → Int32} {S : BS} (h : MK w S) {d : Nat} (hd : d < S 1 0 0) : w (299 + d) = hv (S 12 d 0) := (h.2.2.2.2.2.2.2.1 d hd).2.2
theorem MK.dl {w : Nat → Int32} {S : BS} (h : MK w S) {p d : Nat} (hp : p < S 0 0 0) (hd : d < S 1 0 0) : w (323 + 24 * p + d) = nI (S 13 p d) := h.2.2.2.2.2.2.2.2.1 p d hp hd
theorem MK.mx {w : Nat → Int32} {S : BS} (h : MK w S) : MX w (S 1 0 0) := h.2.2.2.2.2.2.2.2.2
/-- its rows of burdens and letters -/
def lw (k : Nat) : Nat := [104, 101, 110, 112].getD k 0
def MC (M : Mm) : Prop := (∀ j, j < 4 → M 60 j = nI (lw j)) ∧ ∀ j, j < 4 → M 61 j = nI (bw j)
theorem MC.bw {M : Mm} (h : MC M) {j : Nat} (hj : j < 4) : M 61 j = nI (bw j) := h.2 j hj
theorem MC.lw {M : Mm} (h : MC M) {j : Nat} (hj : j < 4) : M 60 j = nI (lw j) := h.1 j hj
def inJ (a b c : Int64) : Bool := decide (b.toInt ≤ a.toInt ∧ a.toInt ≤ c.toInt)
theorem SM_in {d : Nat} {M : Mm} {Q : Po} (a b c : Int64) (h : Q M (some (.int (bI (inJ a b c))))) : Call (d + 1) mM_in [.long a, .long b, .long c] M Q := by
  refine Call_of (m := mM_in) [some (.long a), none, some (.long b), none, some (.long c), none] rfl (fun G => Nat.le_of_ble_eq_true rfl) (fun G => rfl) ?_
  refine g_lload_n dX10_in_0 rfl ?_
  refine g_lload_n dX10_in_1 rfl ?_
  refine g_lcmp dX10_in_2 ?_
  refine g_if_lt 17 dX10_in_3 (by decide) (fun c3 => ?_) (fun c3 => ?_)
  · have h1 : ¬ b ≤ a := fun q => by
      have := (lg_cmp_ge a b).mpr q
      exact absurd c3 (Int32.not_lt.mpr this)
    refine g_iconst (nI 0) dX10_in_17 ki_0 ?_
    refine g_ireturn dX10_in_18 rfl (by first | rfl | exact nar_bI _) ?_
    refine qb_f h ?_
    unfold inJ
    rw [Int64.le_iff_toInt_le] at h1
    exact decide_eq_false (fun q => h1 q.1)
  · have h1 : b ≤ a := (lg_cmp_ge a b).mp (Int32.not_lt.mp c3)
    rw [Int64.le_iff_toInt_le] at h1
    refine g_lload_n dX10_in_6 rfl ?_
    refine g_lload dX10_in_7 rfl ?_
    refine g_lcmp dX10_in_9 ?_
    refine g_if_gt 17 dX10_in_10 (by decide) (fun c10 => ?_) (fun c10 => ?_)
    · have h2 : ¬ a ≤ c := fun q => by
        have := (lg_cmp_le a c).mpr q
        exact absurd c10 (Int32.not_lt.mpr this)
      rw [Int64.le_iff_toInt_le] at h2
      refine g_iconst (nI 0) dX10_in_17 ki_0 ?_
      refine g_ireturn dX10_in_18 rfl (by first | rfl | exact nar_bI _) ?_
      exact qb_f h (decide_eq_false (fun q => h2 q.2))
    · have h2 : a ≤ c := (lg_cmp_le a c).mp (Int32.not_lt.mp c10)
      rw [Int64.le_iff_toInt_le] at h2
      refine g_iconst (nI 1) dX10_in_13 ki_1 ?_
      refine g_goto 18 dX10_in_14 (by decide) ?_
      refine g_ireturn dX10_in_18 rfl (by first | rfl | exact nar_bI _) ?_
      exact qb_t h (decide_eq_true ⟨h1, h2⟩)
theorem pred_toInt {n : Nat} (h : n < 2 ^ 30) : (nI n - nI 1).toInt = (n : Int) - 1 := by
  rw [Int32.toInt_sub, nI_toInt (by omega), nI_toInt (by omega), Int.bmod_def]
  split <;> omega
theorem inJ_R {x : Int32} {n : Nat} (h : n < 2 ^ 30) : inJ x.toInt64 0 (nI n - nI 1).toInt64 = inR x n := by
  unfold inJ inR
  rw [Int32.toInt_toInt64, Int32.toInt_toInt64, pred_toInt h]
  congr 1
  have : (0 : Int64).toInt = 0 := by decide
  rw [this]
  exact propext ⟨fun q => ⟨q.1, by omega⟩, fun q => ⟨q.1, by omega⟩⟩
theorem inJ_L {x : Int32} {c : Int64} {n : Nat} (h : c.toInt + 1 = n) : inJ x.toInt64 0 c = inR x n := by
  unfold inJ inR
  rw [Int32.toInt_toInt64]
  congr 1
  have : (0 : Int64).toInt = 0 := by decide
  rw [this]
  exact propext ⟨fun q => ⟨q.1, by omega⟩, fun q => ⟨q.1, by omega⟩⟩
theorem SM_isOne {d : Nat} {M : Mm} {S : BS} {Q : Po} (hM : MK (M 58) S) (x : Int32) (h : Q M (some (.int (bI (inR x (S 0 0 0)))))) : Call (d + 2) mM_isOne [.ref 57, .int x] M Q := by
  have hw := hM.wf.np
  refine Call_of (m := mM_isOne) [some (.ref 57), some (.int x)] rfl (fun G => Nat.le_of_ble_eq_true rfl) (fun G => rfl) ?_
  refine g_iload_n dX10_isOne_0 rfl ?_
  refine g_i2l dX10_isOne_1 ?_
  refine g_lconst (0) dX10_isOne_2 (by decide) ?_
  refine g_aload_n dX10_isOne_3 rfl ?_
  refine g_getr (j := 0) dX10_isOne_4 gc10 rfl (by decide) rfl (by decide) fl_M_9 ?_
  refine g_iconst (nI 0) dX10_isOne_7 ki_0 ?_
  refine g_iald_n dX10_isOne_8 (by first | rfl | assumption) (by first | decide | assumption) (by omega) (by omega) ?_
  try simp (disch := omega) only [hM.np]
  refine g_iconst (nI 1) dX10_isOne_9 ki_1 ?_
  first | refine g_isub_n dX10_isOne_10 (by omega) ?_ | refine g_isub dX10_isOne_10 ?_
  refine g_i2l dX10_isOne_11 ?_
  refine g_calls3 dX10_isOne_12 clM_in ml_M_68 (Nat.le_of_ble_eq_true rfl) ?_
  refine SM_in _ _ _ ?_
  rw [inJ_R (by omega)]
  refine g_ireturn dX10_isOne_15 rfl (by first | rfl | exact nar_bI _) ?_
  exact h
theorem SM_isOneT {d : Nat} {M : Mm} {S : BS} {Q : Po} (hM : MK (M 58) S) {p : Nat} (hp : p < S 0 0 0) (h : Q M (some (.int (bI true)))) : Call (d + 2) mM_isOne [.ref 57, .int (nI p)] M Q := by
  have hw := hM.wf.np
  refine SM_isOne hM _ ?_
  rw [inR_nI (by omega), decide_eq_true hp]
  exact h
theorem SM_isDuty {d : Nat} {M : Mm} {S : BS} {Q : Po} (hM : MK (M 58) S) (x : Int32) (h : Q M (some (.int (bI (inR x (S 1 0 0)))))) : Call (d + 2) mM_isDuty [.ref 57, .int x] M Q := by
  have hw := hM.wf.nd
  refine Call_of (m := mM_isDuty) [some (.ref 57), some (.int x)] rfl (fun G => Nat.le_of_ble_eq_true rfl) (fun G => rfl) ?_
  refine g_iload_n dX10_isDuty_0 rfl ?_
  refine g_i2l dX10_isDuty_1 ?_
  refine g_lconst (0) dX10_isDuty_2 (by decide) ?_
  refine g_aload_n dX10_isDuty_3 rfl ?_
  refine g_getr (j := 0) dX10_isDuty_4 gc10 rfl (by decide) rfl (by decide) fl_M_9 ?_
  refine g_iconst (nI 2) dX10_isDuty_7 ki_2 ?_
  refine g_iald_n dX10_isDuty_8 (by first | rfl | assumption) (by first | decide | assumption) (by omega) (by omega) ?_
  try simp (disch := omega) only [hM.nd]
  refine g_iconst (nI 1) dX10_isDuty_9 ki_1 ?_
  first | refine g_isub_n dX10_isDuty_10 (by omega) ?_ | refine g_isub dX10_isDuty_10 ?_
  refine g_i2l dX10_isDuty_11 ?_
  refine g_calls3 dX10_isDuty_12 clM_in ml_M_68 (Nat.le_of_ble_eq_true rfl) ?_
  refine SM_in _ _ _ ?_
  rw [inJ_R (by omega)]
  refine g_ireturn dX10_isDuty_15 rfl (by first | rfl | exact nar_bI _) ?_
  exact h
theorem SM_isKind {d : Nat} {M : Mm} {Q : Po} (x : Int32) (h : Q M (some (.int (bI (inR x 4))))) : Call (d + 2) mM_isKind [.int x] M Q := by
  refine Call_of (m := mM_isKind) [some (.int x)] rfl (fun G => Nat.le_of_ble_eq_true rfl) (fun G => rfl) ?_
  refine g_iload_n dX10_isKind_0 rfl ?_
  refine g_i2l dX10_isKind_1 ?_
  refine g_lconst (0) dX10_isKind_2 (by decide) ?_
  refine g_ldc2w (3) dX10_isKind_3 kl_M_76 ?_
  refine g_calls3 dX10_isKind_6 clM_in ml_M_68 (Nat.le_of_ble_eq_true rfl) ?_
  refine SM_in _ _ _ ?_
  rw [inJ_L (n := 4) (by decide)]
  refine g_ireturn dX10_isKind_9 rfl (by first | rfl | exact nar_bI _) ?_
  exact h
theorem SM_isHere {d : Nat} {M : Mm} {S : BS} {Q : Po} (hM : MK (M 58) S) {p : Nat} (hp : p < 2 ^ 31) (h : Q M (some (.int (bI (hr S p))))) : Call (d + 3) mM_isHere [.ref 57, .int (nI p)] M Q := by
  have hw := hM.wf.np
  refine Call_of (m := mM_isHere) [some (.ref 57), some (.int (nI p))] rfl (fun G => Nat.le_of_ble_eq_true rfl) (fun G => rfl) ?_
  refine g_aload_n dX10_isHere_0 rfl ?_
  refine g_iload_n dX10_isHere_1 rfl ?_
  refine g_call1 dX10_isHere_2 clM_isOne ml_M_72 gc10 rfl rfl (by decide) (Nat.le_of_ble_eq_true rfl) ?_
  refine SM_isOne hM _ ?_
  rw [inR_nI hp]
  refine g_if_eq_b 24 dX10_isHere_5 (by decide) (fun c5 => ?_) (fun c5 => ?_)
  · refine g_iconst (nI 0) dX10_isHere_24 ki_0 ?_
    refine g_ireturn dX10_isHere_25 rfl (by first | rfl | exact nar_bI _) ?_
    have h0 := hM.wf.out (p := p) (by have := of_decide_eq_false c5; omega)
    exact qb_f h (by unfold hr; rw [h0]; rfl)
  · have hpn := of_decide_eq_true c5
    have h1 := hM.wf.hN (p := p) (by omega)
    refine g_aload_n dX10_isHere_8 rfl ?_
    refine g_getr (j := 0) dX10_isHere_9 gc10 rfl (by decide) rfl (by decide) fl_M_9 ?_
    refine g_iconst (nI 3) dX10_isHere_12 ki_3 ?_
    refine g_iload_n dX10_isHere_13 rfl ?_
    first | refine g_iadd_n dX10_isHere_14 ?_ | refine g_iadd dX10_isHere_14 ?_
    refine g_iald_n dX10_isHere_15 (by first | rfl | assumption) (by first | decide | assumption) (by omega) (by omega) ?_
    try simp (disch := omega) only [hM.hN]
    refine g_iconst (nI 1) dX10_isHere_16 ki_1 ?_
    refine g_icmp_ne_n 24 dX10_isHere_17 (by decide) (by omega) (by omega) (fun c17 => ?_) (fun c17 => ?_)
    · refine g_iconst (nI 0) dX10_isHere_24 ki_0 ?_
      refine g_ireturn dX10_isHere_25 rfl (by first | rfl | exact nar_bI _) ?_
      exact qb_f h (by unfold hr; simpa using c17)
    · refine g_iconst (nI 1) dX10_isHere_20 ki_1 ?_
      refine g_goto 25 dX10_isHere_21 (by decide) ?_
      refine g_ireturn dX10_isHere_25 rfl (by first | rfl | exact nar_bI _) ?_
      exact qb_t h (by unfold hr; simpa using c17)
theorem SM_holder {d : Nat} {M : Mm} {S : BS} {Q : Po} (hM : MK (M 58) S) {e : Nat} (he : e < S 1 0 0) (h : Q M (some (.int (hv (S 12 e 0))))) : Call (d + 1) mM_holder [.ref 57, .int (nI e)] M Q := by
  have hw := hM.wf.nd
  refine Call_of (m := mM_holder) [some (.ref 57), some (.int (nI e))] rfl (fun G => Nat.le_of_ble_eq_true rfl) (fun G => rfl) ?_
  refine g_aload_n dX10_holder_0 rfl ?_
  refine g_getr (j := 0) dX10_holder_1 gc10 rfl (by decide) rfl (by decide) fl_M_9 ?_
  refine g_sipush (nI 299) dX10_holder_4 ks_299 ?_
  refine g_iload_n dX10_holder_7 rfl ?_
  first | refine g_iadd_n dX10_holder_8 ?_ | refine g_iadd dX10_holder_8 ?_
  refine g_iald_n dX10_holder_9 (by first | rfl | assumption) (by first | decide | assumption) (by omega) (by omega) ?_
  try simp (disch := omega) only [hM.ho]
  refine g_ireturn dX10_holder_10 rfl (by first | rfl | exact nar_bI _) ?_
  exact h
theorem SM_past {d : Nat} {M : Mm} {S : BS} {Q : Po} (hM : MK (M 58) S) {p k : Nat} (hp : p < S 0 0 0) (hk : k < 4) (h : Q M (some (.int (nI (S 5 p k))))) : Call (d + 1) mM_past [.ref 57, .int (nI p), .int (nI k)] M Q := by
  have hw := hM.wf.np
  refine Call_of (m := mM_past) [some (.ref 57), some (.int (nI p)), some (.int (nI k))] rfl (fun G => Nat.le_of_ble_eq_true rfl) (fun G => rfl) ?_
  refine g_aload_n dX10_past_0 rfl ?_
  refine g_getr (j := 0) dX10_past_1 gc10 rfl (by decide) rfl (by decide) fl_M_9 ?_
  refine g_bipush (nI 19) dX10_past_4 kb_19 ?_
  refine g_iconst (nI 4) dX10_past_6 ki_4 ?_
  refine g_iload_n dX10_past_7 rfl ?_
  first | refine g_imul_n dX10_past_8 ?_ | refine g_imul dX10_past_8 ?_
  first | refine g_iadd_n dX10_past_9 ?_ | refine g_iadd dX10_past_9 ?_
  refine g_iload_n dX10_past_10 rfl ?_
  first | refine g_iadd_n dX10_past_11 ?_ | refine g_iadd dX10_past_11 ?_
  refine g_iald_n dX10_past_12 (by first | rfl | assumption) (by first | decide | assumption) (by omega) (by omega) ?_
  try simp (disch := omega) only [hM.ps]
  refine g_ireturn dX10_past_13 rfl (by first | rfl | exact nar_bI _) ?_
  exact h
theorem SM_head {d : Nat} {M : Mm} {S : BS} {Q : Po} (hM : MK (M 58) S) {p k : Nat} (hp : p < S 0 0 0) (hk : k < 4) (h : Q M (some (.int (nI (headN S p k))))) : Call (d + 1) mM_head [.ref 57, .int (nI p), .int (nI k)] M Q := by
  have hw := hM.wf.np
  have hr := hM.wf.rk (p := p) (by omega)
  unfold headN at h
  refine Call_of (m := mM_head) [some (.ref 57), some (.int (nI p)), some (.int (nI k))] rfl (fun G => Nat.le_of_ble_eq_true rfl) (fun G => rfl) ?_
  refine g_aload_n dX10_head_0 rfl ?_
  refine g_getr (j := 0) dX10_head_1 gc10 rfl (by decide) rfl (by decide) fl_M_9 ?_
  refine g_bipush (nI 11) dX10_head_4 kb_11 ?_
  refine g_iload_n dX10_head_6 rfl ?_
  first | refine g_iadd_n dX10_head_7 ?_ | refine g_iadd dX10_head_7 ?_
  refine g_iald_n dX10_head_8 (by first | rfl | assumption) (by first | decide | assumption) (by omega) (by omega) ?_
  try simp (disch := omega) only [hM.rk]
  refine g_iconst (nI 3) dX10_head_9 ki_3 ?_
  refine g_icmp_ne_n 17 dX10_head_10 (by decide) (by omega) (by omega) (fun c10 => ?_) (fun c10 => ?_)
  · refine g_aload_n dX10_head_17 rfl ?_
    refine g_getr (j := 0) dX10_head_18 gc10 rfl (by decide) rfl (by decide) fl_M_9 ?_
    refine g_bipush (nI 11) dX10_head_21 kb_11 ?_
    refine g_iload_n dX10_head_23 rfl ?_
    first | refine g_iadd_n dX10_head_24 ?_ | refine g_iadd dX10_head_24 ?_
    refine g_iald_n dX10_head_25 (by first | rfl | assumption) (by first | decide | assumption) (by omega) (by omega) ?_
    try simp (disch := omega) only [hM.rk]
    refine g_iconst (nI 2) dX10_head_26 ki_2 ?_
    refine g_icmp_ne_n 39 dX10_head_27 (by decide) (by omega) (by omega) (fun c27 => ?_) (fun c27 => ?_)
    · refine g_iconst (nI 0) dX10_head_39 ki_0 ?_
      refine g_ireturn dX10_head_40 rfl (by first | rfl | exact nar_bI _) ?_
      rw [if_neg c10, if_neg (by omega)] at h; exact h
    · refine g_iload_n dX10_head_30 rfl ?_
      refine g_iconst (nI 2) dX10_head_31 ki_2 ?_
      refine g_icmp_ge_n 39 dX10_head_32 (by decide) (by omega) (by omega) (fun c32 => ?_) (fun c32 => ?_)
      · refine g_iconst (nI 0) dX10_head_39 ki_0 ?_
        refine g_ireturn dX10_head_40 rfl (by first | rfl | exact nar_bI _) ?_
        rw [if_neg c10, if_neg (by omega)] at h; exact h
      · refine g_iconst (nI 1) dX10_head_35 ki_1 ?_
        refine g_goto 40 dX10_head_36 (by decide) ?_
        refine g_ireturn dX10_head_40 rfl (by first | rfl | exact nar_bI _) ?_
        rw [if_neg c10, if_pos (by omega)] at h; exact h
  · refine g_iconst (nI 2) dX10_head_13 ki_2 ?_
    refine g_goto 40 dX10_head_14 (by decide) ?_
    refine g_ireturn dX10_head_40 rfl (by first | rfl | exact nar_bI _) ?_
    rw [if_pos c10] at h; exact h
theorem SM_heldIn {d : Nat} {M : Mm} {S : BS} {Q : Po} (hM : MK (M 58) S) {q k : Nat} (hq : q ≤ 8) (hk : k < 4) (h : Q M (some (.int (nI (heldN S q k))))) : Call (d + 2) mM_heldIn [.ref 57, .int (hv q), .int (nI k)] M Q := by
  have hw := hM.wf.nd
  refine Call_of (m := mM_heldIn) [some (.ref 57), some (.int (hv q)), some (.int (nI k)), none, none] rfl (fun G => Nat.le_of_ble_eq_true rfl) (fun G => rfl) ?_
  refine g_iconst (nI 0) dX10_heldIn_0 ki_0 ?_
  refine g_ist5_3 dX10_heldIn_1 (by decide) rfl ?_
  refine g_iconst (nI 0) dX10_heldIn_2 ki_0 ?_
  refine g_ist5_4 dX10_heldIn_3 (by decide) rfl ?_
  refine loop_up (P := fun i => Go mM_heldIn (d + 2) Q 5 [some (.ref 57), some (.int (hv q)), some (.int (nI k)), some (.int (nI (cnt (fun e => S 11 e 0 == k && S 12 e 0 == q) i))), some (.int (nI i))] [] M) (S 1 0 0) ?_ 0 (Nat.zero_le _)
  intro i hi ih
  refine g_iload dX10_heldIn_5 rfl ?_
  refine g_aload_n dX10_heldIn_7 rfl ?_
  refine g_getr (j := 0) dX10_heldIn_8 gc10 rfl (by decide) rfl (by decide) fl_M_9 ?_
  refine g_iconst (nI 2) dX10_heldIn_11 ki_2 ?_
  refine g_iald_n dX10_heldIn_12 (by first | rfl | assumption) (by first | decide | assumption) (by omega) (by omega) ?_
  try simp (disch := omega) only [hM.nd, hM.kd]
  refine g_icmp_ge_n 55 dX10_heldIn_13 (by decide) (by omega) (by omega) (fun c13 => ?_) (fun c13 => ?_)
  · refine g_iload_n dX10_heldIn_55 rfl ?_
    refine g_ireturn dX10_heldIn_56 rfl (by first | rfl | exact nar_bI _) ?_
    rw [show i = S 1 0 0 by omega]; exact h
  · have hdk := hM.wf.dk (d := i) (by omega)
    have ih2 := ih (by omega)
    refine g_iload_n dX10_heldIn_16 rfl ?_
    refine g_aload_n dX10_heldIn_17 rfl ?_
    refine g_iload dX10_heldIn_18 rfl ?_
    refine g_call1 dX10_heldIn_20 clM_holder ml_M_78 gc10 rfl rfl (by decide) (Nat.le_of_ble_eq_true rfl) ?_
    refine SM_holder hM (by omega) ?_
    refine g_iload_n dX10_heldIn_23 rfl ?_
    refine g_icmp_ne 46 dX10_heldIn_24 (by decide) (fun c24 => ?_) (fun c24 => ?_)
    · rw [hv_inj hdk.2.2 hq] at c24
      refine g_iconst (nI 0) dX10_heldIn_46 ki_0 ?_
      first | refine g_iadd_n dX10_heldIn_47 ?_ | refine g_iadd dX10_heldIn_47 ?_
      refine g_ist5_3 dX10_heldIn_48 (by decide) rfl ?_
      first | refine g_incn5_4 dX10_heldIn_49 ki_1 (by decide) rfl ?_ | refine g_incg5_4 (nI 1) dX10_heldIn_49 ki_1 (by decide) rfl ?_
      refine g_goto 5 dX10_heldIn_52 (by decide) ?_
      rw [cnt_f (by simp [c24])] at ih2; exact ih2
    · rw [hv_inj hdk.2.2 hq] at c24
      refine g_aload_n dX10_heldIn_27 rfl ?_
      refine g_getr (j := 0) dX10_heldIn_28 gc10 rfl (by decide) rfl (by decide) fl_M_9 ?_
      refine g_sipush (nI 275) dX10_heldIn_31 ks_275 ?_
      refine g_iload dX10_heldIn_34 rfl ?_
      first | refine g_iadd_n dX10_heldIn_36 ?_ | refine g_iadd dX10_heldIn_36 ?_
      refine g_iald_n dX10_heldIn_37 (by first | rfl | assumption) (by first | decide | assumption) (by omega) (by omega) ?_
      try simp (disch := omega) only [hM.nd, hM.kd]
      refine g_iload_n dX10_heldIn_38 rfl ?_
      refine g_icmp_ne_n 46 dX10_heldIn_39 (by decide) (by omega) (by omega) (fun c39 => ?_) (fun c39 => ?_)
      · refine g_iconst (nI 0) dX10_heldIn_46 ki_0 ?_
        first | refine g_iadd_n dX10_heldIn_47 ?_ | refine g_iadd dX10_heldIn_47 ?_
        refine g_ist5_3 dX10_heldIn_48 (by decide) rfl ?_
        first | refine g_incn5_4 dX10_heldIn_49 ki_1 (by decide) rfl ?_ | refine g_incg5_4 (nI 1) dX10_heldIn_49 ki_1 (by decide) rfl ?_
        refine g_goto 5 dX10_heldIn_52 (by decide) ?_
        rw [cnt_f (by simp [c39])] at ih2; exact ih2
      · refine g_iconst (nI 1) dX10_heldIn_42 ki_1 ?_
        refine g_goto 47 dX10_heldIn_43 (by decide) ?_
        first | refine g_iadd_n dX10_heldIn_47 ?_ | refine g_iadd dX10_heldIn_47 ?_
        refine g_ist5_3 dX10_heldIn_48 (by decide) rfl ?_
        first | refine g_incn5_4 dX10_heldIn_49 ki_1 (by decide) rfl ?_ | refine g_incg5_4 (nI 1) dX10_heldIn_49 ki_1 (by decide) rfl ?_
        refine g_goto 5 dX10_heldIn_52 (by decide) ?_
        rw [cnt_t (by simp [c24, c39])] at ih2; exact ih2
theorem SM_heldInP {d : Nat} {M : Mm} {S : BS} {Q : Po} (hM : MK (M 58) S) {p k : Nat} (hp : p < 8) (hk : k < 4) (h : Q M (some (.int (nI (heldN S p k))))) : Call (d + 2) mM_heldIn [.ref 57, .int (nI p), .int (nI k)] M Q := by
  rw [← hv_p hp]
  exact SM_heldIn hM (by omega) hk h
theorem SM_loadT {d : Nat} {M : Mm} {S : BS} {Q : Po} (hM : MK (M 58) S) {p k : Nat} (hp : p < S 0 0 0) (hk : k < 4) (h : Q M (some (.int (nI (S 5 p k + heldN S p k))))) : Call (d + 3) mM_load [.ref 57, .int (nI p), .int (nI k), .int (nI 1)] M Q := by
  have hw := hM.wf.np
  refine Call_of (m := mM_load) [some (.ref 57), some (.int (nI p)), some (.int (nI k)), some (.int (nI 1))] rfl (fun G => Nat.le_of_ble_eq_true rfl) (fun G => rfl) ?_
  refine g_aload_n dX10_load_0 rfl ?_
  refine g_iload_n dX10_load_1 rfl ?_
  refine g_iload_n dX10_load_2 rfl ?_
  refine g_call2 dX10_load_3 clM_past ml_M_82 gc10 rfl rfl (by decide) (Nat.le_of_ble_eq_true rfl) ?_
  refine SM_past hM hp hk ?_
  refine g_aload_n dX10_load_6 rfl ?_
  refine g_iload_n dX10_load_7 rfl ?_
  refine g_iload_n dX10_load_8 rfl ?_
  refine g_call2 dX10_load_9 clM_heldIn ml_M_86 gc10 rfl rfl (by decide) (Nat.le_of_ble_eq_true rfl) ?_
  refine SM_heldInP hM (by omega) hk ?_
  first | refine g_iadd_n dX10_load_12 ?_ | refine g_iadd dX10_load_12 ?_
  refine g_iload_n dX10_load_13 rfl ?_
  refine g_if_eq_n 21 dX10_load_14 (by decide) (by omega) (fun c14 => ?_) (fun c14 => ?_)
  · exact absurd c14 (by omega)
  · refine g_iconst (nI 0) dX10_load_17 ki_0 ?_
    refine g_goto 27 dX10_load_18 (by decide) ?_
    first | refine g_iadd_n dX10_load_27 ?_ | refine g_iadd dX10_load_27 ?_
    refine g_ireturn dX10_load_28 rfl (by first | rfl | exact nar_bI _) ?_
    exact h
theorem SM_loadOf {d : Nat} {M : Mm} {S : BS} {Q : Po} (hM : MK (M 58) S) {p k : Nat} (hp : p < S 0 0 0) (hk : k < 4) (h : Q M (some (.int (nI (loadN S p k))))) : Call (d + 4) mM_loadOf [.ref 57, .int (nI p), .int (nI k)] M Q := by
  have hw := hM.wf.np
  refine Call_of (m := mM_loadOf) [some (.ref 57), some (.int (nI p)), some (.int (nI k))] rfl (fun G => Nat.le_of_ble_eq_true rfl) (fun G => rfl) ?_
  refine g_aload_n dX10_loadOf_0 rfl ?_
  refine g_iload_n dX10_loadOf_1 rfl ?_
  refine g_iload_n dX10_loadOf_2 rfl ?_
  refine g_iconst (nI 0) dX10_loadOf_3 ki_0 ?_
  refine g_call3 dX10_loadOf_4 clM_load ml_M_92 gc10 rfl rfl (by decide) (Nat.le_of_ble_eq_true rfl) ?_
  have hA : ∀ Q : Po, Q M (some (.int (nI (loadN S p k)))) → Call (d + 3) mM_load [.ref 57, .int (nI p), .int (nI k), .int (nI 0)] M Q := by
    intro Q h
    refine Call_of (m := mM_load) [some (.ref 57), some (.int (nI p)), some (.int (nI k)), some (.int (nI 0))] rfl (fun G => Nat.le_of_ble_eq_true rfl) (fun G => rfl) ?_
    refine g_aload_n dX10_load_0 rfl ?_
    refine g_iload_n dX10_load_1 rfl ?_
    refine g_iload_n dX10_load_2 rfl ?_
    refine g_call2 dX10_load_3 clM_past ml_M_82 gc10 rfl rfl (by decide) (Nat.le_of_ble_eq_true rfl) ?_
    refine SM_past hM hp hk ?_
    refine g_aload_n dX10_load_6 rfl ?_
    refine g_iload_n dX10_load_7 rfl ?_
    refine g_iload_n dX10_load_8 rfl ?_
    refine g_call2 dX10_load_9 clM_heldIn ml_M_86 gc10 rfl rfl (by decide) (Nat.le_of_ble_eq_true rfl) ?_
    refine SM_heldInP hM (by omega) hk ?_
    first | refine g_iadd_n dX10_load_12 ?_ | refine g_iadd dX10_load_12 ?_
    refine g_iload_n dX10_load_13 rfl ?_
    refine g_if_eq_n 21 dX10_load_14 (by decide) (by omega) (fun c14 => ?_) (fun c14 => ?_)
    · refine g_aload_n dX10_load_21 rfl ?_
      refine g_iload_n dX10_load_22 rfl ?_
      refine g_iload_n dX10_load_23 rfl ?_
      refine g_call2 dX10_load_24 clM_head ml_M_89 gc10 rfl rfl (by decide) (Nat.le_of_ble_eq_true rfl) ?_
      refine SM_head hM hp hk ?_
      first | refine g_iadd_n dX10_load_27 ?_ | refine g_iadd dX10_load_27 ?_
      refine g_ireturn dX10_load_28 rfl (by first | rfl | exact nar_bI _) ?_
      rw [show S 5 p k + heldN S p k + headN S p k = loadN S p k by unfold loadN loadF heldN; omega]
      exact h
    · exact absurd rfl c14
  refine hA _ ?_
  refine g_ireturn dX10_loadOf_7 rfl (by first | rfl | exact nar_bI _) ?_
  exact h
theorem SM_burden {d : Nat} {M : Mm} {S : BS} {Q : Po} (hM : MK (M 58) S) (hC : MC M) {p : Nat} (hp : p < S 0 0 0) (h : Q M (some (.int (nI (burN S p))))) : Call (d + 4) mM_burden [.ref 57, .int (nI p)] M Q := by
  have hw := hM.wf.np
  refine Call_of (m := mM_burden) [some (.ref 57), some (.int (nI p)), none, none] rfl (fun G => Nat.le_of_ble_eq_true rfl) (fun G => rfl) ?_
  refine g_iconst (nI 0) dX10_burden_0 ki_0 ?_
  refine g_ist4_2 dX10_burden_1 (by decide) rfl ?_
  refine g_iconst (nI 0) dX10_burden_2 ki_0 ?_
  refine g_ist4_3 dX10_burden_3 (by decide) rfl ?_
  refine loop_up (P := fun i => Go mM_burden (d + 4) Q 4 [some (.ref 57), some (.int (nI p)), some (.int (nI (sumN (fun k => bw k * (S 5 p k + heldN S p k)) i))), some (.int (nI i))] [] M) 4 ?_ 0 (Nat.zero_le _)
  intro i hi ih
  refine g_iload_n dX10_burden_4 rfl ?_
  refine g_iconst (nI 4) dX10_burden_5 ki_4 ?_
  refine g_icmp_ge_n 32 dX10_burden_6 (by decide) (by omega) (by omega) (fun c6 => ?_) (fun c6 => ?_)
  · refine g_iload_n dX10_burden_32 rfl ?_
    refine g_ireturn dX10_burden_33 rfl (by first | rfl | exact nar_bI _) ?_
    rw [show i = 4 by omega]; exact h
  · skip
    refine g_iload_n dX10_burden_9 rfl ?_
    refine g_aload_n dX10_burden_10 rfl ?_
    refine g_getr (j := 4) dX10_burden_11 gc10 rfl (by decide) rfl (by decide) fl_M_19 ?_
    refine g_iload_n dX10_burden_14 rfl ?_
    refine g_iald_n dX10_burden_15 (by first | rfl | assumption) (by first | decide | assumption) (by omega) (by omega) ?_
    try simp (disch := omega) only [hC.bw]
    refine g_aload_n dX10_burden_16 rfl ?_
    refine g_iload_n dX10_burden_17 rfl ?_
    refine g_iload_n dX10_burden_18 rfl ?_
    refine g_iconst (nI 1) dX10_burden_19 ki_1 ?_
    refine g_call3 dX10_burden_20 clM_load ml_M_92 gc10 rfl rfl (by decide) (Nat.le_of_ble_eq_true rfl) ?_
    refine SM_loadT hM hp (by omega) ?_
    first | refine g_imul_n dX10_burden_23 ?_ | refine g_imul dX10_burden_23 ?_
    first | refine g_iadd_n dX10_burden_24 ?_ | refine g_iadd dX10_burden_24 ?_
    refine g_ist4_2 dX10_burden_25 (by decide) rfl ?_
    first | refine g_incn4_3 dX10_burden_26 ki_1 (by decide) rfl ?_ | refine g_incg4_3 (nI 1) dX10_burden_26 ki_1 (by decide) rfl ?_
    refine g_goto 4 dX10_burden_29 (by decide) ?_
    exact ih (by omega)
theorem SM_hereMany {d : Nat} {M : Mm} {S : BS} {Q : Po} (hM : MK (M 58) S) (h : Q M (some (.int (nI (cnt (hr S) (S 0 0 0)))))) : Call (d + 1) mM_hereMany [.ref 57] M Q := by
  have hw := hM.wf.np
  refine Call_of (m := mM_hereMany) [some (.ref 57), none, none] rfl (fun G => Nat.le_of_ble_eq_true rfl) (fun G => rfl) ?_
  refine g_iconst (nI 0) dX10_hereMany_0 ki_0 ?_
  refine g_ist3_1 dX10_hereMany_1 (by decide) rfl ?_
  refine g_iconst (nI 0) dX10_hereMany_2 ki_0 ?_
  refine g_ist3_2 dX10_hereMany_3 (by decide) rfl ?_
  refine loop_up (P := fun i => Go mM_hereMany (d + 1) Q 4 [some (.ref 57), some (.int (nI (cnt (hr S) i))), some (.int (nI i))] [] M) (S 0 0 0) ?_ 0 (Nat.zero_le _)
  intro i hi ih
  refine g_iload_n dX10_hereMany_4 rfl ?_
  refine g_aload_n dX10_hereMany_5 rfl ?_
  refine g_getr (j := 0) dX10_hereMany_6 gc10 rfl (by decide) rfl (by decide) fl_M_9 ?_
  refine g_iconst (nI 0) dX10_hereMany_9 ki_0 ?_
  refine g_iald_n dX10_hereMany_10 (by first | rfl | assumption) (by first | decide | assumption) (by omega) (by omega) ?_
  try simp (disch := omega) only [hM.np, hM.hN]
  refine g_icmp_ge_n 31 dX10_hereMany_11 (by decide) (by omega) (by omega) (fun c11 => ?_) (fun c11 => ?_)
  · refine g_iload_n dX10_hereMany_31 rfl ?_
    refine g_ireturn dX10_hereMany_32 rfl (by first | rfl | exact nar_bI _) ?_
    rw [show i = S 0 0 0 by omega]; exact h
  · have ih2 := ih (by omega)
    have h1 := hM.wf.hN (p := i) (by omega)
    refine g_iload_n dX10_hereMany_14 rfl ?_
    refine g_aload_n dX10_hereMany_15 rfl ?_
    refine g_getr (j := 0) dX10_hereMany_16 gc10 rfl (by decide) rfl (by decide) fl_M_9 ?_
    refine g_iconst (nI 3) dX10_hereMany_19 ki_3 ?_
    refine g_iload_n dX10_hereMany_20 rfl ?_
    first | refine g_iadd_n dX10_hereMany_21 ?_ | refine g_iadd dX10_hereMany_21 ?_
    refine g_iald_n dX10_hereMany_22 (by first | rfl | assumption) (by first | decide | assumption) (by omega) (by omega) ?_
    try simp (disch := omega) only [hM.np, hM.hN]
    first | refine g_iadd_n dX10_hereMany_23 ?_ | refine g_iadd dX10_hereMany_23 ?_
    refine g_ist3_1 dX10_hereMany_24 (by decide) rfl ?_
    first | refine g_incn3_2 dX10_hereMany_25 ki_1 (by decide) rfl ?_ | refine g_incg3_2 (nI 1) dX10_hereMany_25 ki_1 (by decide) rfl ?_
    refine g_goto 4 dX10_hereMany_28 (by decide) ?_
    rw [cnt] at ih2
    rcases (show S 4 i 0 = 0 ∨ S 4 i 0 = 1 by omega) with q | q
    · rw [if_neg (by unfold hr; rw [q]; decide)] at ih2
      rw [q]; exact ih2
    · rw [if_pos (by unfold hr; rw [q]; rfl)] at ih2
      rw [q]; exact ih2
theorem SM_neutralOf {d : Nat} {M : Mm} {S : BS} {Q : Po} (hM : MK (M 58) S) {k : Nat} (hk : k < 4) (h : Q M (some (.int (nI (neuN S k))))) : Call (d + 4) mM_neutralOf [.ref 57, .int (nI k)] M Q := by
  have hw := hM.wf.np
  refine Call_of (m := mM_neutralOf) [some (.ref 57), some (.int (nI k)), none, none, none] rfl (fun G => Nat.le_of_ble_eq_true rfl) (fun G => rfl) ?_
  refine g_iconst (nI 0) dX10_neutralOf_0 ki_0 ?_
  refine g_ist5_2 dX10_neutralOf_1 (by decide) rfl ?_
  refine g_aload_n dX10_neutralOf_2 rfl ?_
  refine g_call0 dX10_neutralOf_3 clM_hereMany ml_M_96 gc10 rfl rfl (by decide) (Nat.le_of_ble_eq_true rfl) ?_
  refine SM_hereMany hM ?_
  refine g_ist5_3 dX10_neutralOf_6 (by decide) rfl ?_
  refine g_iconst (nI 0) dX10_neutralOf_7 ki_0 ?_
  refine g_ist5_4 dX10_neutralOf_8 (by decide) rfl ?_
  refine loop_up (P := fun i => Go mM_neutralOf (d + 4) Q 10 [some (.ref 57), some (.int (nI k)), some (.int (nI (pastSum S k i))), some (.int (nI (cnt (hr S) (S 0 0 0)))), some (.int (nI i))] [] M) (S 0 0 0) ?_ 0 (Nat.zero_le _)
  intro i hi ih
  refine g_iload dX10_neutralOf_10 rfl ?_
  refine g_aload_n dX10_neutralOf_12 rfl ?_
  refine g_getr (j := 0) dX10_neutralOf_13 gc10 rfl (by decide) rfl (by decide) fl_M_9 ?_
  refine g_iconst (nI 0) dX10_neutralOf_16 ki_0 ?_
  refine g_iald_n dX10_neutralOf_17 (by first | rfl | assumption) (by first | decide | assumption) (by omega) (by omega) ?_
  try simp (disch := omega) only [hM.np]
  refine g_icmp_ge_n 50 dX10_neutralOf_18 (by decide) (by omega) (by omega) (fun c18 => ?_) (fun c18 => ?_)
  · obtain rfl : i = S 0 0 0 := by omega
    have h1 := pastSum_le hM.wf hk (n := S 0 0 0) hw
    have h2 := cnt_le (hr S) (S 0 0 0)
    unfold neuN at h
    refine g_iload_n dX10_neutralOf_50 rfl ?_
    refine g_if_ne_n 58 dX10_neutralOf_51 (by decide) (by omega) (fun c51 => ?_) (fun c51 => ?_)
    · refine g_iload_n dX10_neutralOf_58 rfl ?_
      refine g_iload_n dX10_neutralOf_59 rfl ?_
      refine g_idiv_n dX10_neutralOf_60 (by omega) (by omega) (by omega) ?_
      refine g_ireturn dX10_neutralOf_61 rfl (by first | rfl | exact nar_bI _) ?_
      rw [if_neg c51] at h; exact h
    · refine g_iconst (nI 0) dX10_neutralOf_54 ki_0 ?_
      refine g_goto 61 dX10_neutralOf_55 (by decide) ?_
      refine g_ireturn dX10_neutralOf_61 rfl (by first | rfl | exact nar_bI _) ?_
      rw [if_pos c51] at h; exact h
  · have ih2 := ih (by omega)
    refine g_iload_n dX10_neutralOf_21 rfl ?_
    refine g_aload_n dX10_neutralOf_22 rfl ?_
    refine g_iload dX10_neutralOf_23 rfl ?_
    refine g_call1 dX10_neutralOf_25 clM_isHere ml_M_100 gc10 rfl rfl (by decide) (Nat.le_of_ble_eq_true rfl) ?_
    refine SM_isHere hM (by omega) ?_
    refine g_if_eq_b 41 dX10_neutralOf_28 (by decide) (fun c28 => ?_) (fun c28 => ?_)
    · refine g_iconst (nI 0) dX10_neutralOf_41 ki_0 ?_
      first | refine g_iadd_n dX10_neutralOf_42 ?_ | refine g_iadd dX10_neutralOf_42 ?_
      refine g_ist5_2 dX10_neutralOf_43 (by decide) rfl ?_
      first | refine g_incn5_4 dX10_neutralOf_44 ki_1 (by decide) rfl ?_ | refine g_incg5_4 (nI 1) dX10_neutralOf_44 ki_1 (by decide) rfl ?_
      refine g_goto 10 dX10_neutralOf_47 (by decide) ?_
      unfold pastSum at ih2 ⊢
      rw [sumN, if_neg (by rw [c28]; decide)] at ih2
      exact ih2
    · skip
      refine g_aload_n dX10_neutralOf_31 rfl ?_
      refine g_iload dX10_neutralOf_32 rfl ?_
      refine g_iload_n dX10_neutralOf_34 rfl ?_
      refine g_call2 dX10_neutralOf_35 clM_past ml_M_82 gc10 rfl rfl (by decide) (Nat.le_of_ble_eq_true rfl) ?_
      refine SM_past hM (by omega) hk ?_
      refine g_goto 42 dX10_neutralOf_38 (by decide) ?_
      first | refine g_iadd_n dX10_neutralOf_42 ?_ | refine g_iadd dX10_neutralOf_42 ?_
      refine g_ist5_2 dX10_neutralOf_43 (by decide) rfl ?_
      first | refine g_incn5_4 dX10_neutralOf_44 ki_1 (by decide) rfl ?_ | refine g_incg5_4 (nI 1) dX10_neutralOf_44 ki_1 (by decide) rfl ?_
      refine g_goto 10 dX10_neutralOf_47 (by decide) ?_
      unfold pastSum at ih2 ⊢
      rw [sumN, if_pos c28] at ih2
      exact ih2
theorem inJ_N {a b c : Nat} (ha : a < 2 ^ 31) (hb : b < 2 ^ 31) (hc : c < 2 ^ 31) : inJ (nI a).toInt64 (nI b).toInt64 (nI c).toInt64 = decide (b ≤ a ∧ a ≤ c) := by
  unfold inJ
  rw [Int32.toInt_toInt64, Int32.toInt_toInt64, Int32.toInt_toInt64, nI_toInt ha, nI_toInt hb, nI_toInt hc]
  congr 1
  exact propext ⟨fun q => by omega, fun q => by omega⟩
theorem SM_mayHold {d : Nat} {M : Mm} {S : BS} {Q : Po} (hM : MK (M 58) S) {p e : Nat} (hp : p < 2 ^ 31) (he : e < S 1 0 0) (h : Q M (some (.int (bI (mayB S p e))))) : Call (d + 4) mM_mayHold [.ref 57, .int (nI p), .int (nI e)] M Q := by
  have hw := hM.wf.np
  have hw2 := hM.wf.nd
  have hdk := hM.wf.dk (d := e) (by omega)
  refine Call_of (m := mM_mayHold) [some (.ref 57), some (.int (nI p)), some (.int (nI e)), none, none, none, none] rfl (fun G => Nat.le_of_ble_eq_true rfl) (fun G => rfl) ?_
  refine g_aload_n dX10_mayHold_0 rfl ?_
  refine g_iload_n dX10_mayHold_1 rfl ?_
  refine g_call1 dX10_mayHold_2 clM_isHere ml_M_100 gc10 rfl rfl (by decide) (Nat.le_of_ble_eq_true rfl) ?_
  refine SM_isHere hM hp ?_
  refine g_if_ne_b 10 dX10_mayHold_5 (by decide) (fun c5 => ?_) (fun c5 => ?_)
  rotate_left
  · skip
    refine g_iconst (nI 0) dX10_mayHold_8 ki_0 ?_
    refine g_ireturn dX10_mayHold_9 rfl (by first | rfl | exact nar_bI _) ?_
    exact qb_f h (by unfold mayB; rw [c5]; rfl)
  have hpn := hr_np hM.wf c5
  have hnr := hM.wf.nr (p := p) (by omega)
  refine g_aload_n dX10_mayHold_10 rfl ?_
  refine g_getr (j := 0) dX10_mayHold_11 gc10 rfl (by decide) rfl (by decide) fl_M_9 ?_
  refine g_sipush (nI 251) dX10_mayHold_14 ks_251 ?_
  refine g_iload_n dX10_mayHold_17 rfl ?_
  first | refine g_iadd_n dX10_mayHold_18 ?_ | refine g_iadd dX10_mayHold_18 ?_
  refine g_iald_n dX10_mayHold_19 (by first | rfl | assumption) (by first | decide | assumption) (by omega) (by omega) ?_
  try simp (disch := omega) only [hM.nr, hM.dy, hM.kd]
  refine g_ist7_3 dX10_mayHold_20 (by decide) rfl ?_
  refine g_iconst (nI 0) dX10_mayHold_21 ki_0 ?_
  refine g_ist7_4 dX10_mayHold_22 (by decide) rfl ?_
  refine loop_up (P := fun i => (∀ r, r < i → agB (S 7 p r) (S 8 p r) (S 9 p r) (S 10 e 0) (S 11 e 0) = false) → Go mM_mayHold (d + 4) Q 24 [some (.ref 57), some (.int (nI p)), some (.int (nI e)), some (.int (nI (S 10 e 0))), some (.int (nI i)), none, none] [] M) (S 6 p 0) ?_ 0 (Nat.zero_le _) (fun r hr => absurd hr (by omega))
  intro i hi ih hno
  refine g_iload dX10_mayHold_24 rfl ?_
  refine g_aload_n dX10_mayHold_26 rfl ?_
  refine g_getr (j := 0) dX10_mayHold_27 gc10 rfl (by decide) rfl (by decide) fl_M_9 ?_
  refine g_bipush (nI 51) dX10_mayHold_30 kb_51 ?_
  refine g_iload_n dX10_mayHold_32 rfl ?_
  first | refine g_iadd_n dX10_mayHold_33 ?_ | refine g_iadd dX10_mayHold_33 ?_
  refine g_iald_n dX10_mayHold_34 (by first | rfl | assumption) (by first | decide | assumption) (by omega) (by omega) ?_
  try simp (disch := omega) only [hM.nr, hM.dy, hM.kd]
  refine g_icmp_ge_n 174 dX10_mayHold_35 (by decide) (by omega) (by omega) (fun c35 => ?_) (fun c35 => ?_)
  · refine g_iconst (nI 1) dX10_mayHold_174 ki_1 ?_
    refine g_ireturn dX10_mayHold_175 rfl (by first | rfl | exact nar_bI _) ?_
    exact qb_t h (by unfold mayB; rw [c5, Bool.true_and]; exact decide_eq_true (fun r hr => hno r (by omega)))
  · have hi2 : i < S 6 p 0 := by omega
    obtain ⟨w1, w2, w3, w4⟩ := hM.wf.rl (p := p) (r := i) (by omega) (by omega)
    have e7 := hM.rs hpn hi2
    have e8 := hM.ra hpn hi2
    have e9 := hM.rb hpn hi2
    have hend : ∀ (b : Bool), b = agB (S 7 p i) (S 8 p i) (S 9 p i) (S 10 e 0) (S 11 e 0) → Go mM_mayHold (d + 4) Q 159 [some (.ref 57), some (.int (nI p)), some (.int (nI e)), some (.int (nI (S 10 e 0))), some (.int (nI i)), some (.int (nI (59 + 24 * p + 3 * i))), none] [.int (bI b)] M := by
      intro b hb
      refine g_ist7_6 dX10_mayHold_159 (by decide) rfl ?_
      refine g_iload dX10_mayHold_161 rfl ?_
      refine g_if_eq_b 168 dX10_mayHold_163 (by decide) (fun c163 => ?_) (fun c163 => ?_)
      · first | refine g_incn7_4 dX10_mayHold_168 ki_1 (by decide) rfl ?_ | refine g_incg7_4 (nI 1) dX10_mayHold_168 ki_1 (by decide) rfl ?_
        refine g_goto 24 dX10_mayHold_171 (by decide) ?_
        refine Go_sub [some (.ref 57), some (.int (nI p)), some (.int (nI e)), some (.int (nI (S 10 e 0))), some (.int (nI (i + 1))), none, none] (by simp [subL]) (ih (by omega) (fun r hr => ?_))
        rcases Nat.lt_or_ge r i with q | q
        · exact hno r q
        · rw [show r = i by omega, ← hb]; exact c163
      · refine g_iconst (nI 0) dX10_mayHold_166 ki_0 ?_
        refine g_ireturn dX10_mayHold_167 rfl (by first | rfl | exact nar_bI _) ?_
        exact qb_f h (by
          unfold mayB
          rw [c5, Bool.true_and]
          refine decide_eq_false (fun hall => ?_)
          have := hall i (by omega)
          rw [← hb, c163] at this
          cases this)
    refine g_bipush (nI 59) dX10_mayHold_38 kb_59 ?_
    refine g_bipush (nI 24) dX10_mayHold_40 kb_24 ?_
    refine g_iload_n dX10_mayHold_42 rfl ?_
    first | refine g_imul_n dX10_mayHold_43 ?_ | refine g_imul dX10_mayHold_43 ?_
    first | refine g_iadd_n dX10_mayHold_44 ?_ | refine g_iadd dX10_mayHold_44 ?_
    refine g_iconst (nI 3) dX10_mayHold_45 ki_3 ?_
    refine g_iload dX10_mayHold_46 rfl ?_
    first | refine g_imul_n dX10_mayHold_48 ?_ | refine g_imul dX10_mayHold_48 ?_
    first | refine g_iadd_n dX10_mayHold_49 ?_ | refine g_iadd dX10_mayHold_49 ?_
    refine g_ist7_5 dX10_mayHold_50 (by decide) rfl ?_
    refine g_aload_n dX10_mayHold_52 rfl ?_
    refine g_getr (j := 0) dX10_mayHold_53 gc10 rfl (by decide) rfl (by decide) fl_M_9 ?_
    refine g_iload dX10_mayHold_56 rfl ?_
    refine g_iald_n dX10_mayHold_58 (by first | rfl | assumption) (by first | decide | assumption) (by omega) (by omega) ?_
    try simp (disch := omega) only [hM.nr, hM.dy, hM.kd, e7, e8]
    refine g_if_ne_n 90 dX10_mayHold_59 (by decide) (by omega) (fun c59 => ?_) (fun c59 => ?_)
    · refine g_aload_n dX10_mayHold_90 rfl ?_
      refine g_getr (j := 0) dX10_mayHold_91 gc10 rfl (by decide) rfl (by decide) fl_M_9 ?_
      refine g_iload dX10_mayHold_94 rfl ?_
      refine g_iald_n dX10_mayHold_96 (by first | rfl | assumption) (by first | decide | assumption) (by omega) (by omega) ?_
      try simp (disch := omega) only [hM.nr, hM.dy, hM.kd, e7, e8]
      refine g_iconst (nI 1) dX10_mayHold_97 ki_1 ?_
      refine g_icmp_ne_n 131 dX10_mayHold_98 (by decide) (by omega) (by omega) (fun c98 => ?_) (fun c98 => ?_)
      · have e9' := e9 (by omega)
        have hm := Nat.mod_lt (S 10 e 0) (show 0 < S 8 p i by omega)
        refine g_iload_n dX10_mayHold_131 rfl ?_
        refine g_aload_n dX10_mayHold_132 rfl ?_
        refine g_getr (j := 0) dX10_mayHold_133 gc10 rfl (by decide) rfl (by decide) fl_M_9 ?_
        refine g_iload dX10_mayHold_136 rfl ?_
        refine g_iconst (nI 1) dX10_mayHold_138 ki_1 ?_
        first | refine g_iadd_n dX10_mayHold_139 ?_ | refine g_iadd dX10_mayHold_139 ?_
        refine g_iald_n dX10_mayHold_140 (by first | rfl | assumption) (by first | decide | assumption) (by omega) (by omega) ?_
        try simp (disch := omega) only [hM.nr, hM.dy, hM.kd, e7, e8, e9']
        refine g_irem_n dX10_mayHold_141 (by omega) (by omega) (by omega) ?_
        refine g_aload_n dX10_mayHold_142 rfl ?_
        refine g_getr (j := 0) dX10_mayHold_143 gc10 rfl (by decide) rfl (by decide) fl_M_9 ?_
        refine g_iload dX10_mayHold_146 rfl ?_
        refine g_iconst (nI 2) dX10_mayHold_148 ki_2 ?_
        first | refine g_iadd_n dX10_mayHold_149 ?_ | refine g_iadd dX10_mayHold_149 ?_
        refine g_iald_n dX10_mayHold_150 (by first | rfl | assumption) (by first | decide | assumption) (by omega) (by omega) ?_
        try simp (disch := omega) only [hM.nr, hM.dy, hM.kd, e7, e8, e9']
        refine g_icmp_eq_n 158 dX10_mayHold_151 (by decide) (by omega) (by omega) (fun c151 => ?_) (fun c151 => ?_)
        · refine g_iconst (nI 0) dX10_mayHold_158 ki_0 ?_
          refine hend false ?_
          unfold agB; rw [if_neg c59, if_neg c98]; simp [c151]
        · refine g_iconst (nI 1) dX10_mayHold_154 ki_1 ?_
          refine g_goto 159 dX10_mayHold_155 (by decide) ?_
          refine hend true ?_
          unfold agB; rw [if_neg c59, if_neg c98]; simp [c151]
      · skip
        refine g_aload_n dX10_mayHold_101 rfl ?_
        refine g_getr (j := 0) dX10_mayHold_102 gc10 rfl (by decide) rfl (by decide) fl_M_9 ?_
        refine g_sipush (nI 275) dX10_mayHold_105 ks_275 ?_
        refine g_iload_n dX10_mayHold_108 rfl ?_
        first | refine g_iadd_n dX10_mayHold_109 ?_ | refine g_iadd dX10_mayHold_109 ?_
        refine g_iald_n dX10_mayHold_110 (by first | rfl | assumption) (by first | decide | assumption) (by omega) (by omega) ?_
        try simp (disch := omega) only [hM.nr, hM.dy, hM.kd, e7, e8]
        refine g_aload_n dX10_mayHold_111 rfl ?_
        refine g_getr (j := 0) dX10_mayHold_112 gc10 rfl (by decide) rfl (by decide) fl_M_9 ?_
        refine g_iload dX10_mayHold_115 rfl ?_
        refine g_iconst (nI 1) dX10_mayHold_117 ki_1 ?_
        first | refine g_iadd_n dX10_mayHold_118 ?_ | refine g_iadd dX10_mayHold_118 ?_
        refine g_iald_n dX10_mayHold_119 (by first | rfl | assumption) (by first | decide | assumption) (by omega) (by omega) ?_
        try simp (disch := omega) only [hM.nr, hM.dy, hM.kd, e7, e8]
        refine g_icmp_ne_n 127 dX10_mayHold_120 (by decide) (by omega) (by omega) (fun c120 => ?_) (fun c120 => ?_)
        · refine g_iconst (nI 0) dX10_mayHold_127 ki_0 ?_
          refine g_goto 159 dX10_mayHold_128 (by decide) ?_
          refine hend false ?_
          unfold agB; rw [if_neg c59, if_pos c98]; simp [c120]
        · refine g_iconst (nI 1) dX10_mayHold_123 ki_1 ?_
          refine g_goto 159 dX10_mayHold_124 (by decide) ?_
          refine hend true ?_
          unfold agB; rw [if_neg c59, if_pos c98]; simp [c120]
    · have e9' := e9 (by omega)
      refine g_iload_n dX10_mayHold_62 rfl ?_
      refine g_i2l dX10_mayHold_63 ?_
      refine g_aload_n dX10_mayHold_64 rfl ?_
      refine g_getr (j := 0) dX10_mayHold_65 gc10 rfl (by decide) rfl (by decide) fl_M_9 ?_
      refine g_iload dX10_mayHold_68 rfl ?_
      refine g_iconst (nI 1) dX10_mayHold_70 ki_1 ?_
      first | refine g_iadd_n dX10_mayHold_71 ?_ | refine g_iadd dX10_mayHold_71 ?_
      refine g_iald_n dX10_mayHold_72 (by first | rfl | assumption) (by first | decide | assumption) (by omega) (by omega) ?_
      try simp (disch := omega) only [hM.nr, hM.dy, hM.kd, e7, e8, e9']
      refine g_i2l dX10_mayHold_73 ?_
      refine g_aload_n dX10_mayHold_74 rfl ?_
      refine g_getr (j := 0) dX10_mayHold_75 gc10 rfl (by decide) rfl (by decide) fl_M_9 ?_
      refine g_iload dX10_mayHold_78 rfl ?_
      refine g_iconst (nI 2) dX10_mayHold_80 ki_2 ?_
      first | refine g_iadd_n dX10_mayHold_81 ?_ | refine g_iadd dX10_mayHold_81 ?_
      refine g_iald_n dX10_mayHold_82 (by first | rfl | assumption) (by first | decide | assumption) (by omega) (by omega) ?_
      try simp (disch := omega) only [hM.nr, hM.dy, hM.kd, e7, e8, e9']
      refine g_i2l dX10_mayHold_83 ?_
      refine g_calls3 dX10_mayHold_84 clM_in ml_M_68 (Nat.le_of_ble_eq_true rfl) ?_
      refine SM_in _ _ _ ?_
      rw [inJ_N (by omega) (by omega) (by omega)]
      refine g_goto 159 dX10_mayHold_87 (by decide) ?_
      refine hend _ ?_
      unfold agB; rw [if_pos c59]
/-! THE REFERENCE: lines, places, opening -/
theorem sd_bound {S : BS} (hW : WF S) {k : Nat} (hk : k < S 1 0 0) : sd S k < 24 := by
  have := sd_lt (S := S) hk
  have := hW.nd
  omega
theorem SM_lines {d : Nat} {M : Mm} {S : BS} {Q : Po} (hM : MK (M 58) S) (h : ∀ M', EqO [62] M M' → (∀ j, j < S 1 0 0 → M' 62 j = nI (sd S j)) → Q M' none) : Call (d + 1) mM_lines [.ref 57] M Q := by
  have hw := hM.wf.nd
  refine Call_of (m := mM_lines) [some (.ref 57), none, none] rfl (fun G => Nat.le_of_ble_eq_true rfl) (fun G => rfl) ?_
  refine g_iconst (nI 0) dX10_lines_0 ki_0 ?_
  refine g_ist3_1 dX10_lines_1 (by decide) rfl ?_
  refine loop_up (P := fun i => ∀ M', EqO [62] M M' → (∀ j, j < i → M' 62 j = nI (sdF (fun e => S 10 e 0) i j)) → Go mM_lines (d + 1) Q 2 [some (.ref 57), some (.int (nI i)), none] [] M') (S 1 0 0) ?_ 0 (Nat.zero_le _) M EqO.rf (fun j hj => absurd hj (by omega))
  intro i hi ih M' hE h62
  have hM' : MK (M' 58) S := by rw [hE 58 (by decide)]; exact hM
  refine g_iload_n dX10_lines_2 rfl ?_
  refine g_aload_n dX10_lines_3 rfl ?_
  refine g_getr (j := 0) dX10_lines_4 gc10 rfl (by decide) rfl (by decide) fl_M_9 ?_
  refine g_iconst (nI 2) dX10_lines_7 ki_2 ?_
  refine g_iald_n dX10_lines_8 (by first | rfl | assumption) (by first | decide | assumption) (by omega) (by omega) ?_
  try simp (disch := omega) only [hM'.nd]
  refine g_icmp_ge_n 81 dX10_lines_9 (by decide) (by omega) (by omega) (fun c9 => ?_) (fun c9 => ?_)
  · refine g_return dX10_lines_81 rfl ?_
    rw [show i = S 1 0 0 by omega] at h62
    exact h M' hE h62
  · have hi2 : i < S 1 0 0 := by omega
    have hdi := hM.wf.dk (d := i) (by omega)
    refine g_iload_n dX10_lines_12 rfl ?_
    refine g_ist3_2 dX10_lines_13 (by decide) rfl ?_
    suffices hloop : ∀ k, k ≤ i → ∀ M2, EqO [62] M M2 → (∀ j, j < k → M2 62 j = nI (sdF (fun e => S 10 e 0) i j)) → (∀ j, k < j → j ≤ i → M2 62 j = nI (sdF (fun e => S 10 e 0) i (j - 1))) → pos (sdF (fun e => S 10 e 0) i) (fun e => S 10 e 0) (S 10 i 0) i = pos (sdF (fun e => S 10 e 0) i) (fun e => S 10 e 0) (S 10 i 0) k → Go mM_lines (d + 1) Q 14 [some (.ref 57), some (.int (nI i)), some (.int (nI k))] [] M2 by
      exact hloop i (Nat.le_refl i) M' hE h62 (fun j h1 h2 => absurd h2 (by omega)) rfl
    have hdone : ∀ k, k ≤ i → ∀ M2, EqO [62] M M2 → (∀ j, j < k → M2 62 j = nI (sdF (fun e => S 10 e 0) i j)) → (∀ j, k < j → j ≤ i → M2 62 j = nI (sdF (fun e => S 10 e 0) i (j - 1))) → pos (sdF (fun e => S 10 e 0) i) (fun e => S 10 e 0) (S 10 i 0) i = k → Go mM_lines (d + 1) Q 68 [some (.ref 57), some (.int (nI i)), some (.int (nI k))] [] M2 := by
      intro k hk M2 hE2 hlo hhi hp
      refine g_aload_n dX10_lines_68 rfl ?_
      refine g_getr (j := 5) dX10_lines_69 gc10 rfl (by decide) rfl (by decide) fl_M_22 ?_
      refine g_iload_n dX10_lines_72 rfl ?_
      refine g_iload_n dX10_lines_73 rfl ?_
      refine g_iast_n dX10_lines_74 (by first | rfl | assumption) (by first | decide | assumption) (by omega) (by omega) ?_
      first | refine g_incn3_1 dX10_lines_75 ki_1 (by decide) rfl ?_ | refine g_incg3_1 (nI 1) dX10_lines_75 ki_1 (by decide) rfl ?_
      refine g_goto 2 dX10_lines_78 (by decide) ?_
      refine Go_sub [some (.ref 57), some (.int (nI (i + 1))), none] (by simp [subL]) (ih (by omega) _ (hE2.tr (EqO.set (by decide))) (fun j hj => ?_))
      rw [sdF]
      unfold insF
      rw [hp]
      by_cases e : j = k
      · subst e; rw [mset_at, if_neg (by omega), if_pos rfl]
      · rw [mset_off (by omega)]
        rcases Nat.lt_or_ge j k with q | q
        · rw [if_pos q]; exact hlo j q
        · rw [if_neg (by omega), if_neg e]; exact hhi j (by omega) (by omega)
    intro k
    induction k with
    | zero =>
      intro hk M2 hE2 hlo hhi hp
      refine g_iload_n dX10_lines_14 rfl ?_
      refine g_if_le_n 68 dX10_lines_15 (by decide) (by omega) (fun c15 => ?_) (fun c15 => ?_)
      · exact hdone 0 hk M2 hE2 hlo hhi hp
      · exact absurd rfl c15
    | succ k kh =>
      intro hk M2 hE2 hlo hhi hp
      have hM2 : MK (M2 58) S := by rw [hE2 58 (by decide)]; exact hM
      have e62 : M2 62 k = nI (sdF (fun e => S 10 e 0) i k) := hlo k (by omega)
      have hs := sdF_lt (fun e => S 10 e 0) i k (by omega)
      have hdk := hM.wf.dk (d := sdF (fun e => S 10 e 0) i k) (by omega)
      refine g_iload_n dX10_lines_14 rfl ?_
      refine g_if_le_n 68 dX10_lines_15 (by decide) (by omega) (fun c15 => ?_) (fun c15 => ?_)
      · exact absurd c15 (by omega)
      · skip
        refine g_aload_n dX10_lines_18 rfl ?_
        refine g_getr (j := 0) dX10_lines_19 gc10 rfl (by decide) rfl (by decide) fl_M_9 ?_
        refine g_sipush (nI 251) dX10_lines_22 ks_251 ?_
        refine g_aload_n dX10_lines_25 rfl ?_
        refine g_getr (j := 5) dX10_lines_26 gc10 rfl (by decide) rfl (by decide) fl_M_22 ?_
        refine g_iload_n dX10_lines_29 rfl ?_
        refine g_iconst (nI 1) dX10_lines_30 ki_1 ?_
        try simp only [Nat.add_sub_cancel]
        first | refine g_isub_n dX10_lines_31 (by omega) ?_ | refine g_isub dX10_lines_31 ?_
        refine g_iald_n dX10_lines_32 (by first | rfl | assumption) (by first | decide | assumption) (by omega) (by omega) ?_
        try simp (disch := omega) only [e62, hM2.dy, Nat.add_sub_cancel]
        first | refine g_iadd_n dX10_lines_33 ?_ | refine g_iadd dX10_lines_33 ?_
        refine g_iald_n dX10_lines_34 (by first | rfl | assumption) (by first | decide | assumption) (by omega) (by omega) ?_
        try simp (disch := omega) only [e62, hM2.dy, Nat.add_sub_cancel]
        refine g_aload_n dX10_lines_35 rfl ?_
        refine g_getr (j := 0) dX10_lines_36 gc10 rfl (by decide) rfl (by decide) fl_M_9 ?_
        refine g_sipush (nI 251) dX10_lines_39 ks_251 ?_
        refine g_iload_n dX10_lines_42 rfl ?_
        first | refine g_iadd_n dX10_lines_43 ?_ | refine g_iadd dX10_lines_43 ?_
        refine g_iald_n dX10_lines_44 (by first | rfl | assumption) (by first | decide | assumption) (by omega) (by omega) ?_
        try simp (disch := omega) only [e62, hM2.dy, Nat.add_sub_cancel]
        refine g_icmp_le_n 68 dX10_lines_45 (by decide) (by omega) (by omega) (fun c45 => ?_) (fun c45 => ?_)
        · exact hdone (k + 1) hk M2 hE2 hlo hhi (hp.trans (pos_stop (by omega)))
        · skip
          refine g_aload_n dX10_lines_48 rfl ?_
          refine g_getr (j := 5) dX10_lines_49 gc10 rfl (by decide) rfl (by decide) fl_M_22 ?_
          refine g_iload_n dX10_lines_52 rfl ?_
          refine g_aload_n dX10_lines_53 rfl ?_
          refine g_getr (j := 5) dX10_lines_54 gc10 rfl (by decide) rfl (by decide) fl_M_22 ?_
          refine g_iload_n dX10_lines_57 rfl ?_
          refine g_iconst (nI 1) dX10_lines_58 ki_1 ?_
          try simp only [Nat.add_sub_cancel]
          first | refine g_isub_n dX10_lines_59 (by omega) ?_ | refine g_isub dX10_lines_59 ?_
          refine g_iald_n dX10_lines_60 (by first | rfl | assumption) (by first | decide | assumption) (by omega) (by omega) ?_
          try simp (disch := omega) only [e62, hM2.dy, Nat.add_sub_cancel]
          refine g_iast_n dX10_lines_61 (by first | rfl | assumption) (by first | decide | assumption) (by omega) (by omega) ?_
          first | refine g_incp3_2 dX10_lines_62 ki_m1 (by omega) (by decide) rfl ?_ | refine g_incg3_2 (-1) dX10_lines_62 ki_m1 (by decide) rfl ?_
          refine g_goto 14 dX10_lines_65 (by decide) ?_
          refine kh (by omega) _ (hE2.tr (EqO.set (by decide))) (fun j hj => ?_) (fun j h1 h2 => ?_) (hp.trans (pos_step (by omega)))
          · rw [mset_off (by omega)]; exact hlo j (by omega)
          · by_cases e : j = k + 1
            · subst e; rw [mset_at, Nat.add_sub_cancel]
            · rw [mset_off (by omega)]; exact hhi j (by omega) h2
theorem SM_placeOf {d : Nat} {M : Mm} {S : BS} {Q : Po} (hM : MK (M 58) S) {e k : Nat} (hk : k < S 1 0 0) (e1 : sd S k = e) (e2 : ∀ j, j < k → sd S j ≠ e) (h : ∀ M', EqO [62] M M' → Q M' (some (.int (nI k)))) : Call (d + 2) mM_placeOf [.ref 57, .int (nI e)] M Q := by
  have hw := hM.wf.nd
  have he : e < S 1 0 0 := by rw [← e1]; exact sd_lt hk
  refine Call_of (m := mM_placeOf) [some (.ref 57), some (.int (nI e)), none] rfl (fun G => Nat.le_of_ble_eq_true rfl) (fun G => rfl) ?_
  refine g_aload_n dX10_placeOf_0 rfl ?_
  refine g_call0 dX10_placeOf_1 clM_lines ml_M_103 gc10 rfl rfl (by decide) (Nat.le_of_ble_eq_true rfl) ?_
  refine SM_lines hM (fun M' hE h62 => ?_)
  refine g_iconst (nI 0) dX10_placeOf_4 ki_0 ?_
  refine g_ist3_2 dX10_placeOf_5 (by decide) rfl ?_
  refine loop_up (P := fun i => Go mM_placeOf (d + 2) Q 6 [some (.ref 57), some (.int (nI e)), some (.int (nI i))] [] M') k ?_ 0 (Nat.zero_le _)
  intro i hi ih
  have hs := sd_bound hM.wf (k := i) (by omega)
  refine g_aload_n dX10_placeOf_6 rfl ?_
  refine g_getr (j := 5) dX10_placeOf_7 gc10 rfl (by decide) rfl (by decide) fl_M_22 ?_
  refine g_iload_n dX10_placeOf_10 rfl ?_
  refine g_iald_n dX10_placeOf_11 (by first | rfl | assumption) (by first | decide | assumption) (by omega) (by omega) ?_
  try simp (disch := omega) only [h62]
  refine g_iload_n dX10_placeOf_12 rfl ?_
  refine g_icmp_eq_n 22 dX10_placeOf_13 (by decide) (by omega) (by omega) (fun c13 => ?_) (fun c13 => ?_)
  · refine g_iload_n dX10_placeOf_22 rfl ?_
    refine g_ireturn dX10_placeOf_23 rfl (by first | rfl | exact nar_bI _) ?_
    rcases Nat.lt_or_ge i k with q | q
    · exact absurd c13 (e2 i q)
    · rw [show i = k by omega]; exact h M' hE
  · first | refine g_incn3_2 dX10_placeOf_16 ki_1 (by decide) rfl ?_ | refine g_incg3_2 (nI 1) dX10_placeOf_16 ki_1 (by decide) rfl ?_
    refine g_goto 6 dX10_placeOf_19 (by decide) ?_
    refine ih ?_
    rcases Nat.lt_or_ge i k with q | q
    · exact q
    · exact absurd (by rw [show i = k by omega]; exact e1) c13
theorem SM_heldBy {d : Nat} {M : Mm} {S : BS} {Q : Po} (hM : MK (M 58) S) {p : Nat} (hp : p < 8) (h : Q M (some (.int (nI (heldAll S p))))) : Call (d + 3) mM_heldBy [.ref 57, .int (nI p)] M Q := by
  refine Call_of (m := mM_heldBy) [some (.ref 57), some (.int (nI p)), none, none] rfl (fun G => Nat.le_of_ble_eq_true rfl) (fun G => rfl) ?_
  refine g_iconst (nI 0) dX10_heldBy_0 ki_0 ?_
  refine g_ist4_2 dX10_heldBy_1 (by decide) rfl ?_
  refine g_iconst (nI 0) dX10_heldBy_2 ki_0 ?_
  refine g_ist4_3 dX10_heldBy_3 (by decide) rfl ?_
  refine loop_up (P := fun i => Go mM_heldBy (d + 3) Q 4 [some (.ref 57), some (.int (nI p)), some (.int (nI (sumN (fun k => heldN S p k) i))), some (.int (nI i))] [] M) 4 ?_ 0 (Nat.zero_le _)
  intro i hi ih
  refine g_iload_n dX10_heldBy_4 rfl ?_
  refine g_iconst (nI 4) dX10_heldBy_5 ki_4 ?_
  refine g_icmp_ge_n 24 dX10_heldBy_6 (by decide) (by omega) (by omega) (fun c6 => ?_) (fun c6 => ?_)
  · refine g_iload_n dX10_heldBy_24 rfl ?_
    refine g_ireturn dX10_heldBy_25 rfl (by first | rfl | exact nar_bI _) ?_
    rw [show i = 4 by omega]; exact h
  · refine g_iload_n dX10_heldBy_9 rfl ?_
    refine g_aload_n dX10_heldBy_10 rfl ?_
    refine g_iload_n dX10_heldBy_11 rfl ?_
    refine g_iload_n dX10_heldBy_12 rfl ?_
    refine g_call2 dX10_heldBy_13 clM_heldIn ml_M_86 gc10 rfl rfl (by decide) (Nat.le_of_ble_eq_true rfl) ?_
    refine SM_heldInP hM hp (by omega) ?_
    first | refine g_iadd_n dX10_heldBy_16 ?_ | refine g_iadd dX10_heldBy_16 ?_
    refine g_ist4_2 dX10_heldBy_17 (by decide) rfl ?_
    first | refine g_incn4_3 dX10_heldBy_18 ki_1 (by decide) rfl ?_ | refine g_incg4_3 (nI 1) dX10_heldBy_18 ki_1 (by decide) rfl ?_
    refine g_goto 4 dX10_heldBy_21 (by decide) ?_
    exact ih (by omega)
theorem SM_whoMay {d : Nat} {M : Mm} {S : BS} {Q : Po} (hM : MK (M 58) S) {e : Nat} (he : e < S 1 0 0) (h : Q M (some (.int (nI (whoN S e))))) : Call (d + 5) mM_whoMay [.ref 57, .int (nI e)] M Q := by
  have hw := hM.wf.np
  have hw2 := hM.wf.nd
  refine Call_of (m := mM_whoMay) [some (.ref 57), some (.int (nI e)), none, none] rfl (fun G => Nat.le_of_ble_eq_true rfl) (fun G => rfl) ?_
  refine g_iconst (nI 0) dX10_whoMay_0 ki_0 ?_
  refine g_ist4_2 dX10_whoMay_1 (by decide) rfl ?_
  refine g_iconst (nI 0) dX10_whoMay_2 ki_0 ?_
  refine g_ist4_3 dX10_whoMay_3 (by decide) rfl ?_
  refine loop_up (P := fun i => Go mM_whoMay (d + 5) Q 4 [some (.ref 57), some (.int (nI e)), some (.int (nI (cnt (fun p => mayB S p e) i))), some (.int (nI i))] [] M) (S 0 0 0) ?_ 0 (Nat.zero_le _)
  intro i hi ih
  refine g_iload_n dX10_whoMay_4 rfl ?_
  refine g_aload_n dX10_whoMay_5 rfl ?_
  refine g_getr (j := 0) dX10_whoMay_6 gc10 rfl (by decide) rfl (by decide) fl_M_9 ?_
  refine g_iconst (nI 0) dX10_whoMay_9 ki_0 ?_
  refine g_iald_n dX10_whoMay_10 (by first | rfl | assumption) (by first | decide | assumption) (by omega) (by omega) ?_
  try simp (disch := omega) only [hM.np]
  refine g_icmp_ge_n 37 dX10_whoMay_11 (by decide) (by omega) (by omega) (fun c11 => ?_) (fun c11 => ?_)
  · refine g_iload_n dX10_whoMay_37 rfl ?_
    refine g_ireturn dX10_whoMay_38 rfl (by first | rfl | exact nar_bI _) ?_
    rw [show i = S 0 0 0 by omega]; exact h
  · have ih2 := ih (by omega)
    refine g_iload_n dX10_whoMay_14 rfl ?_
    refine g_aload_n dX10_whoMay_15 rfl ?_
    refine g_iload_n dX10_whoMay_16 rfl ?_
    refine g_iload_n dX10_whoMay_17 rfl ?_
    refine g_call2 dX10_whoMay_18 clM_mayHold ml_M_113 gc10 rfl rfl (by decide) (Nat.le_of_ble_eq_true rfl) ?_
    refine SM_mayHold hM (by omega) he ?_
    refine g_if_eq_b 28 dX10_whoMay_21 (by decide) (fun c21 => ?_) (fun c21 => ?_)
    · refine g_iconst (nI 0) dX10_whoMay_28 ki_0 ?_
      first | refine g_iadd_n dX10_whoMay_29 ?_ | refine g_iadd dX10_whoMay_29 ?_
      refine g_ist4_2 dX10_whoMay_30 (by decide) rfl ?_
      first | refine g_incn4_3 dX10_whoMay_31 ki_1 (by decide) rfl ?_ | refine g_incg4_3 (nI 1) dX10_whoMay_31 ki_1 (by decide) rfl ?_
      refine g_goto 4 dX10_whoMay_34 (by decide) ?_
      rw [cnt_f (f := fun p => mayB S p e) c21] at ih2; exact ih2
    · refine g_iconst (nI 1) dX10_whoMay_24 ki_1 ?_
      refine g_goto 29 dX10_whoMay_25 (by decide) ?_
      first | refine g_iadd_n dX10_whoMay_29 ?_ | refine g_iadd dX10_whoMay_29 ?_
      refine g_ist4_2 dX10_whoMay_30 (by decide) rfl ?_
      first | refine g_incn4_3 dX10_whoMay_31 ki_1 (by decide) rfl ?_ | refine g_incg4_3 (nI 1) dX10_whoMay_31 ki_1 (by decide) rfl ?_
      refine g_goto 4 dX10_whoMay_34 (by decide) ?_
      rw [cnt_t (f := fun p => mayB S p e) c21] at ih2; exact ih2
def tH (q : Nat) : Int32 := if q = 8 then -5 else nI q
theorem SM_toldHolder {d : Nat} {M : Mm} {Q : Po} {q : Nat} (hq : q ≤ 8) (h : Q M (some (.int (tH q)))) : Call (d + 1) mM_toldHolder [.int (hv q)] M Q := by
  unfold tH at h
  refine Call_of (m := mM_toldHolder) [some (.int (hv q))] rfl (fun G => Nat.le_of_ble_eq_true rfl) (fun G => rfl) ?_
  refine g_iload_n dX10_toldHolder_0 rfl ?_
  refine g_if_ge 9 dX10_toldHolder_1 (by decide) (fun c1 => ?_) (fun c1 => ?_)
  · have : ¬ q = 8 := fun e => by rw [e, hv_8] at c1; exact absurd c1 (by decide)
    rw [if_neg this] at h
    refine g_iload_n dX10_toldHolder_9 rfl ?_
    refine g_ireturn dX10_toldHolder_10 rfl (by first | rfl | exact nar_bI _) ?_
    rw [show hv q = nI q by unfold hv; rw [if_neg this]]; exact h
  · have : q = 8 := by
      rcases Nat.lt_or_ge q 8 with z | z
      · rw [hv_p z] at c1; exact absurd (nI_pos' (by omega)) c1
      · omega
    rw [if_pos this] at h
    refine g_bipush ((-5)) dX10_toldHolder_4 kb_m5 ?_
    refine g_goto 10 dX10_toldHolder_6 (by decide) ?_
    refine g_ireturn dX10_toldHolder_10 rfl (by first | rfl | exact nar_bI _) ?_
    exact h
/-- the row's places that a state speaks of -/
theorem MK.keep {w w' : Nat → Int32} {S : BS} (hM : MK w S) (h : ∀ j, j < 515 → (j < 3 ∨ (3 ≤ j ∧ j < 3 + S 0 0 0) ∨ (11 ≤ j ∧ j < 11 + S 0 0 0) ∨ (19 ≤ j ∧ j < 19 + 4 * S 0 0 0) ∨ (51 ≤ j ∧ j < 51 + S 0 0 0) ∨ (59 ≤ j ∧ j < 59 + 24 * S 0 0 0) ∨ (251 ≤ j ∧ j < 251 + S 1 0 0) ∨ (275 ≤ j ∧ j < 275 + S 1 0 0) ∨ (299 ≤ j ∧ j < 299 + S 1 0 0) ∨ (∃ p d, p < S 0 0 0 ∧ d < S 1 0 0 ∧ j = 323 + 24 * p + d)) → w' j = w j) (hx : MX w' (S 1 0 0)) : MK w' S := by
  have hw := hM.wf.np
  have hw2 := hM.wf.nd
  refine ⟨hM.wf, ?_, ?_, ?_, fun p hp => ?_, fun p k hp hk => ?_, fun p r hp hr => ?_, fun d hd => ?_, fun p d hp hd => ?_, hx⟩
  · rw [h 0 (by omega) (by omega)]; exact hM.np
  · rw [h 1 (by omega) (by omega)]; exact hM.yr
  · rw [h 2 (by omega) (by omega)]; exact hM.nd
  · rw [h (3 + p) (by omega) (by omega), h (11 + p) (by omega) (by omega), h (51 + p) (by omega) (by omega)]
    exact ⟨hM.hN hp, hM.rk hp, hM.nr hp⟩
  · rw [h (19 + 4 * p + k) (by omega) (by omega)]; exact hM.ps hp hk
  · have h8 := hM.wf.nr (p := p) (by omega)
    rw [h (59 + 24 * p + 3 * r) (by omega) (by omega), h (59 + 24 * p + 3 * r + 1) (by omega) (by omega), h (59 + 24 * p + 3 * r + 2) (by omega) (by omega)]
    exact ⟨hM.rs hp hr, hM.ra hp hr, hM.rb hp hr⟩
  · rw [h (251 + d) (by omega) (by omega), h (275 + d) (by omega) (by omega), h (299 + d) (by omega) (by omega)]
    exact ⟨hM.dy hd, hM.kd hd, hM.ho hd⟩
  · rw [h (323 + 24 * p + d) (by omega) (Or.inr (Or.inr (Or.inr (Or.inr (Or.inr (Or.inr (Or.inr (Or.inr (Or.inr ⟨p, d, hp, hd, rfl⟩))))))))) ]; exact hM.dl hp hd
/-- other holders -/
theorem MK.hol {w w' : Nat → Int32} {S S' : BS} (hM : MK w S) (hw : ∀ j, ¬ (299 ≤ j ∧ j < 323) → w' j = w j) (hS : ∀ a, a ≠ 12 → S' a = S a) (h2 : ∀ d, d < S 1 0 0 → w' (299 + d) = hv (S' 12 d 0)) (h8 : ∀ d, d < 24 → S' 12 d 0 ≤ 8) (hn0 : 0 < S 1 0 0) : MK w' S' := by
  have h0 := hS 0 (by decide)
  have h1 := hS 1 (by decide)
  have h10 := hS 10 (by decide)
  have h4 := hS 4 (by decide)
  have hnp := hM.wf.np
  have hnd := hM.wf.nd
  have hnr := fun p (hp : p < S 0 0 0) => hM.wf.nr (p := p) (by omega)
  obtain ⟨w0, a1, a2, a3, a4, a5, a6, a7, a8, a9⟩ := hM
  refine ⟨?_, ?_, ?_, ?_, ?_, ?_, ?_, ?_, ?_, MX.pos (by rw [h1]; exact hn0)⟩
  · obtain ⟨b1, b2, b3, b4, b5, b6, b7, b8, b9, b10, b11⟩ := w0
    simp only [WF, h0, h1, h4, hS 3 (by decide), hS 5 (by decide), hS 6 (by decide), hS 7 (by decide), hS 8 (by decide), hS 9 (by decide), h10, hS 11 (by decide), hS 13 (by decide)]
    exact ⟨b1, b2, b3, b4, b5, b6, b7, b8, fun d hd => ⟨(b9 d hd).1, (b9 d hd).2.1, h8 d hd⟩, b10, b11⟩
  · rw [hw 0 (by omega)]; simp only [h0]; exact a1
  · rw [hw 1 (by omega)]; simp only [hS 2 (by decide)]; exact a2
  · rw [hw 2 (by omega)]; simp only [h1]; exact a3
  · simp only [h0, h4, hS 3 (by decide), hS 6 (by decide)]
    intro p hp
    rw [hw (3 + p) (by omega), hw (11 + p) (by omega), hw (51 + p) (by omega)]; exact a4 p hp
  · simp only [h0, hS 5 (by decide)]
    intro p k hp hk
    rw [hw (19 + 4 * p + k) (by omega)]; exact a5 p k hp hk
  · simp only [h0, hS 6 (by decide), hS 7 (by decide), hS 8 (by decide), hS 9 (by decide)]
    intro p r hp hr
    have := hnr p hp
    rw [hw (59 + 24 * p + 3 * r) (by omega), hw (59 + 24 * p + 3 * r + 1) (by omega), hw (59 + 24 * p + 3 * r + 2) (by omega)]; exact a6 p r hp hr
  · simp only [h1, h10, hS 11 (by decide)]
    intro d hd
    rw [hw (251 + d) (by omega), hw (275 + d) (by omega)]; exact ⟨(a7 d hd).1, (a7 d hd).2.1, h2 d hd⟩
  · simp only [h0, h1, hS 13 (by decide)]
    intro p d hp hd
    rw [hw (323 + 24 * p + d) (by omega)]; exact a8 p d hp hd
theorem mset_row (M : Mm) (k j : Nat) (v : Int32) : mset M k j v k = upd (M k) j v := mset_same M k j v
theorem upd_at (f : Nat → Int32) (j : Nat) (v : Int32) : upd f j v j = v := if_pos rfl
theorem upd_off {f : Nat → Int32} {j i : Nat} {v : Int32} (h : i ≠ j) : upd f j v i = f i := if_neg h
theorem MK.hol1 {w : Nat → Int32} {S : BS} (hM : MK w S) {e q : Nat} (he : e < S 1 0 0) (hq : q ≤ 8) : MK (upd w (299 + e) (hv q)) (up S 12 e 0 q) := by
  have hw2 := hM.wf.nd
  refine hM.hol (fun j hj => upd_off (by omega)) (fun a ha => ?_) (fun d hd => ?_) (fun d hd => ?_) (by omega)
  · funext b c; exact up_off (fun q => ha q.1)
  · by_cases e2 : d = e
    · subst e2; rw [upd_at, up_at]
    · rw [upd_off (by omega), up_off (by omega)]; exact hM.ho hd
  · by_cases e2 : d = e
    · subst e2; rw [up_at]; exact hq
    · rw [up_off (by omega)]; exact (hM.wf.dk hd).2.2
theorem opnI_oth {S : BS} {p n a : Nat} (ha : a ≠ 12) : opnI S p n a = S a := by
  funext b c
  unfold opnI
  rw [if_neg (fun q => ha q.1)]
theorem opnI_may (S : BS) (p i q b : Nat) : mayB (opnI S p i) q b = mayB S q b := by
  simp only [mayB, hr, opnI_oth (show (4 : Nat) ≠ 12 by decide), opnI_oth (show (6 : Nat) ≠ 12 by decide), opnI_oth (show (7 : Nat) ≠ 12 by decide), opnI_oth (show (8 : Nat) ≠ 12 by decide), opnI_oth (show (9 : Nat) ≠ 12 by decide), opnI_oth (show (10 : Nat) ≠ 12 by decide), opnI_oth (show (11 : Nat) ≠ 12 by decide)]
theorem opnI_skip {S : BS} {p i : Nat} (hn : ¬ (S 12 i 0 = p ∧ mayB S p i = false)) : opnI S p (i + 1) = opnI S p i := by
  funext a b c
  unfold opnI
  by_cases q : a = 12 ∧ c = 0 ∧ b < i ∧ S 12 b 0 = p ∧ mayB S p b = false
  · rw [if_pos q, if_pos ⟨q.1, q.2.1, by omega, q.2.2.2⟩]
  · rw [if_neg q, if_neg (fun z => ?_)]
    rcases Nat.lt_or_ge b i with y | y
    · exact q ⟨z.1, z.2.1, y, z.2.2.2⟩
    · have : b = i := by omega
      subst this
      exact hn z.2.2.2
theorem opnI_do {S : BS} {p i : Nat} (h1 : S 12 i 0 = p) (h2 : mayB S p i = false) : opnI S p (i + 1) = up (opnI S p i) 12 i 0 8 := by
  funext a b c
  by_cases q : a = 12 ∧ b = i ∧ c = 0
  · obtain ⟨rfl, rfl, rfl⟩ := q
    rw [up_at]
    unfold opnI
    rw [if_pos ⟨rfl, rfl, by omega, h1, h2⟩]
  · rw [up_off q]
    unfold opnI
    by_cases z : a = 12 ∧ c = 0 ∧ b < i ∧ S 12 b 0 = p ∧ mayB S p b = false
    · rw [if_pos z, if_pos ⟨z.1, z.2.1, by omega, z.2.2.2⟩]
    · rw [if_neg z, if_neg (fun y => z ⟨y.1, y.2.1, by omega, y.2.2.2⟩)]
theorem opnI_0 (S : BS) (p : Nat) : opnI S p 0 = S := by
  funext a b c; unfold opnI; rw [if_neg (fun q => absurd q.2.2.1 (Nat.not_lt_zero _))]
theorem SM_opensBarred {d : Nat} {M : Mm} {S : BS} {Q : Po} (hM : MK (M 58) S) {p : Nat} (hp : p < 8) (h : ∀ M', EqO [58] M M' → MK (M' 58) (opnI S p (S 1 0 0)) → Q M' none) : Call (d + 5) mM_opensBarred [.ref 57, .int (nI p)] M Q := by
  have hw2 := hM.wf.nd
  refine Call_of (m := mM_opensBarred) [some (.ref 57), some (.int (nI p)), none] rfl (fun G => Nat.le_of_ble_eq_true rfl) (fun G => rfl) ?_
  refine g_iconst (nI 0) dX10_opensBarred_0 ki_0 ?_
  refine g_ist3_2 dX10_opensBarred_1 (by decide) rfl ?_
  refine loop_up (P := fun i => ∀ M', EqO [58] M M' → MK (M' 58) (opnI S p i) → Go mM_opensBarred (d + 5) Q 2 [some (.ref 57), some (.int (nI p)), some (.int (nI i))] [] M') (S 1 0 0) ?_ 0 (Nat.zero_le _) M EqO.rf (by rw [opnI_0]; exact hM)
  intro i hi ih M' hE hM'
  have e1 : ∀ n, opnI S p n 1 0 0 = S 1 0 0 := fun n => by rw [opnI_oth (by decide)]
  have hoi : opnI S p i 12 i 0 = S 12 i 0 := by unfold opnI; rw [if_neg (by omega)]
  refine g_iload_n dX10_opensBarred_2 rfl ?_
  refine g_aload_n dX10_opensBarred_3 rfl ?_
  refine g_getr (j := 0) dX10_opensBarred_4 gc10 rfl (by decide) rfl (by decide) fl_M_9 ?_
  refine g_iconst (nI 2) dX10_opensBarred_7 ki_2 ?_
  refine g_iald_n dX10_opensBarred_8 (by first | rfl | assumption) (by first | decide | assumption) (by omega) (by omega) ?_
  try simp (disch := omega) only [hM'.nd, e1]
  refine g_icmp_ge_n 47 dX10_opensBarred_9 (by decide) (by omega) (by omega) (fun c9 => ?_) (fun c9 => ?_)
  · refine g_return dX10_opensBarred_47 rfl ?_
    rw [show i = S 1 0 0 by omega] at hM'
    exact h M' hE hM'
  · have hd8 := (hM.wf.dk (d := i) (by omega)).2.2
    refine g_aload_n dX10_opensBarred_12 rfl ?_
    refine g_iload_n dX10_opensBarred_13 rfl ?_
    refine g_call1 dX10_opensBarred_14 clM_holder ml_M_78 gc10 rfl rfl (by decide) (Nat.le_of_ble_eq_true rfl) ?_
    refine SM_holder hM' (by rw [e1]; omega) ?_
    rw [hoi]
    refine g_iload_n dX10_opensBarred_17 rfl ?_
    refine g_icmp_ne 41 dX10_opensBarred_18 (by decide) (fun c18 => ?_) (fun c18 => ?_)
    · rw [hv_eq hd8 hp] at c18
      first | refine g_incn3_2 dX10_opensBarred_41 ki_1 (by decide) rfl ?_ | refine g_incg3_2 (nI 1) dX10_opensBarred_41 ki_1 (by decide) rfl ?_
      refine g_goto 2 dX10_opensBarred_44 (by decide) ?_
      exact ih (by omega) M' hE (by rw [opnI_skip (fun q => c18 q.1)]; exact hM')
    · rw [hv_eq hd8 hp] at c18
      refine g_aload_n dX10_opensBarred_21 rfl ?_
      refine g_iload_n dX10_opensBarred_22 rfl ?_
      refine g_iload_n dX10_opensBarred_23 rfl ?_
      refine g_call2 dX10_opensBarred_24 clM_mayHold ml_M_113 gc10 rfl rfl (by decide) (Nat.le_of_ble_eq_true rfl) ?_
      refine SM_mayHold hM' (by omega) (by rw [e1]; omega) ?_
      rw [opnI_may]
      refine g_if_ne_b 41 dX10_opensBarred_27 (by decide) (fun c27 => ?_) (fun c27 => ?_)
      · first | refine g_incn3_2 dX10_opensBarred_41 ki_1 (by decide) rfl ?_ | refine g_incg3_2 (nI 1) dX10_opensBarred_41 ki_1 (by decide) rfl ?_
        refine g_goto 2 dX10_opensBarred_44 (by decide) ?_
        exact ih (by omega) M' hE (by rw [opnI_skip (fun q => by rw [q.2] at c27; cases c27)]; exact hM')
      · refine g_aload_n dX10_opensBarred_30 rfl ?_
        refine g_getr (j := 0) dX10_opensBarred_31 gc10 rfl (by decide) rfl (by decide) fl_M_9 ?_
        refine g_sipush (nI 299) dX10_opensBarred_34 ks_299 ?_
        refine g_iload_n dX10_opensBarred_37 rfl ?_
        first | refine g_iadd_n dX10_opensBarred_38 ?_ | refine g_iadd dX10_opensBarred_38 ?_
        refine g_iconst ((-1)) dX10_opensBarred_39 ki_m1 ?_
        refine g_iast_n dX10_opensBarred_40 (by first | rfl | assumption) (by first | decide | assumption) (by omega) (by omega) ?_
        first | refine g_incn3_2 dX10_opensBarred_41 ki_1 (by decide) rfl ?_ | refine g_incg3_2 (nI 1) dX10_opensBarred_41 ki_1 (by decide) rfl ?_
        refine g_goto 2 dX10_opensBarred_44 (by decide) ?_
        refine ih (by omega) _ (hE.tr (EqO.set (by decide))) ?_
        rw [opnI_do c18 c27, mset_row]
        exact hM'.hol1 (q := 8) (by rw [e1]; omega) (Nat.le_refl 8)
