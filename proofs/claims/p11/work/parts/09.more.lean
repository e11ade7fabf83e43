theorem g_if_eq_tt {m : Me} {d : Nat} {Q : Po} {pc : Nat} {ls : Lv} {st : St} {M : Mm} {off : Int} (tgt : Nat) (hd : decode m.2.1 pc = .ok (.ifCond .eq off, 3)) (ht : (pc : Int) + off = (tgt : Int)) (kf : Go m d Q (pc + 3) ls st M) : Go m d Q pc ls (.int (bI true) :: st) M := g_if_eq_b tgt hd ht (fun h => by cases h) (fun _ => kf)
theorem g_if_ne_tt {m : Me} {d : Nat} {Q : Po} {pc : Nat} {ls : Lv} {st : St} {M : Mm} {off : Int} (tgt : Nat) (hd : decode m.2.1 pc = .ok (.ifCond .ne off, 3)) (ht : (pc : Int) + off = (tgt : Int)) (kt : Go m d Q tgt ls st M) : Go m d Q pc ls (.int (bI true) :: st) M := g_if_ne_b tgt hd ht (fun _ => kt) (fun h => by cases h)
theorem g_if_eq_ff {m : Me} {d : Nat} {Q : Po} {pc : Nat} {ls : Lv} {st : St} {M : Mm} {off : Int} (tgt : Nat) (hd : decode m.2.1 pc = .ok (.ifCond .eq off, 3)) (ht : (pc : Int) + off = (tgt : Int)) (kt : Go m d Q tgt ls st M) : Go m d Q pc ls (.int (bI false) :: st) M := g_if_eq_b tgt hd ht (fun _ => kt) (fun h => by cases h)
theorem g_if_ne_ff {m : Me} {d : Nat} {Q : Po} {pc : Nat} {ls : Lv} {st : St} {M : Mm} {off : Int} (tgt : Nat) (hd : decode m.2.1 pc = .ok (.ifCond .ne off, 3)) (ht : (pc : Int) + off = (tgt : Int)) (kf : Go m d Q (pc + 3) ls st M) : Go m d Q pc ls (.int (bI false) :: st) M := g_if_ne_b tgt hd ht (fun h => by cases h) (fun _ => kf)
/-- within 0 .. n - 1 -/
def inR (x : Int32) (n : Nat) : Bool := decide (0 ≤ x.toInt ∧ x.toInt < (n : Int))
theorem inR_nI {p n : Nat} (h : p < 2 ^ 31) : inR (nI p) n = decide (p < n) := by
  unfold inR
  rw [nI_toInt h]
  by_cases q : p < n
  · simp [q]
  · simp only [q, decide_false, decide_eq_false_iff_not]; omega
theorem inR_true {x : Int32} {n : Nat} (h : inR x n = true) : ∃ p, p < n ∧ x = nI p := by
  unfold inR at h
  simp only [decide_eq_true_eq] at h
  refine ⟨x.toInt.toNat, by omega, ?_⟩
  apply Int32.toInt_inj.mp
  have hx : x.toInt < 2 ^ 31 := Int32.toInt_lt x
  rw [nI_toInt (by omega)]
  omega
theorem inR_m1 (n : Nat) : inR (-1) n = false := by
  unfold inR
  simp only [decide_eq_false_iff_not]
  intro h
  exact absurd h.1 (by decide)
theorem lt0_toInt {x : Int32} : x < 0 ↔ x.toInt < 0 := by rw [Int32.lt_iff_toInt_lt]; exact Iff.rfl
theorem lenI_toInt {n : Nat} {x : Int32} (h : n < 2 ^ 31) : nI n ≤ x ↔ (n : Int) ≤ x.toInt := by rw [Int32.le_iff_toInt_le, nI_toInt h]
theorem toInt_lenI {n : Nat} {x : Int32} (h : n < 2 ^ 31) : x ≤ nI n ↔ x.toInt ≤ (n : Int) := by rw [Int32.le_iff_toInt_le, nI_toInt h]
theorem toInt_ltnI {n : Nat} {x : Int32} (h : n < 2 ^ 31) : x < nI n ↔ x.toInt < (n : Int) := by rw [Int32.lt_iff_toInt_lt, nI_toInt h]
theorem ltnI_toInt {n : Nat} {x : Int32} (h : n < 2 ^ 31) : nI n < x ↔ (n : Int) < x.toInt := by rw [Int32.lt_iff_toInt_lt, nI_toInt h]
theorem nI_div {a b : Nat} (ha : a < 2 ^ 31) (hb : b < 2 ^ 31) : nI a / nI b = nI (a / b) := by
  apply Int32.toInt_inj.mp
  have hq : a / b < 2 ^ 31 := Nat.lt_of_le_of_lt (Nat.div_le_self a b) ha
  rw [Int32.toInt_div_of_ne_left _ _ (by
    intro e
    have := congrArg Int32.toInt e
    rw [nI_toInt ha] at this
    have h2 : Int32.minValue.toInt = -2147483648 := by decide
    omega), nI_toInt ha, nI_toInt hb, nI_toInt hq]
  exact (Int.ofNat_tdiv a b).symm
theorem nI_rem {a b : Nat} (ha : a < 2 ^ 31) (hb : b < 2 ^ 31) : nI a - (nI a / nI b) * nI b = nI (a % b) := by
  rw [nI_div ha hb, nI_mul, nI_sub (Nat.div_mul_le_self a b)]
  congr 1
  have := Nat.div_add_mod a b
  rw [Nat.mul_comm] at this
  omega
theorem nI_abs {a b : Nat} (ha : a < 2 ^ 30) (hb : b < 2 ^ 30) : (if 0 ≤ nI a - nI b then nI a - nI b else 0 - (nI a - nI b)) = nI (if b ≤ a then a - b else b - a) := by
  by_cases h : b ≤ a
  · rw [nI_sub h, if_pos (nI_pos' (by omega)), if_pos h]
  · have e : 0 - (nI a - nI b) = nI (b - a) := by
      rw [← nI_sub (show a ≤ b by omega)]
      generalize nI a = x
      generalize nI b = y
      rw [Int32.zero_sub, Int32.neg_sub]
    have e2 : ¬ 0 ≤ nI a - nI b := by
      have h3 : (nI a - nI b).toInt = (a : Int) - (b : Int) := by
        rw [Int32.toInt_sub, nI_toInt (by omega), nI_toInt (by omega), Int.bmod_def]
        split <;> omega
      rw [Int32.le_iff_toInt_le, h3]
      have h0 : (0 : Int32).toInt = 0 := by decide
      omega
    rw [if_neg e2, e, if_neg h]
theorem g_idiv_n {m : Me} {d : Nat} {Q : Po} {pc : Nat} {ls : Lv} {st : St} {M : Mm} {a b : Nat} (hd : decode m.2.1 pc = .ok (.idiv, 1)) (ha : a < 2 ^ 31) (hb : b < 2 ^ 31) (h0 : 0 < b) (kk : Go m d Q (pc + 1) ls (.int (nI (a / b)) :: st) M) : Go m d Q pc ls (.int (nI b) :: .int (nI a) :: st) M := g_idiv hd (nI_ne0 h0 hb) (by rw [nI_div ha hb]; exact kk)
theorem g_irem_n {m : Me} {d : Nat} {Q : Po} {pc : Nat} {ls : Lv} {st : St} {M : Mm} {a b : Nat} (hd : decode m.2.1 pc = .ok (.irem, 1)) (ha : a < 2 ^ 31) (hb : b < 2 ^ 31) (h0 : 0 < b) (kk : Go m d Q (pc + 1) ls (.int (nI (a % b)) :: st) M) : Go m d Q pc ls (.int (nI b) :: .int (nI a) :: st) M := g_irem hd (nI_ne0 h0 hb) (by rw [nI_rem ha hb]; exact kk)
