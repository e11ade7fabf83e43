/-! numbers as nI n, truth as bI b -/
def bI (b : Bool) : Int32 := if b = true then nI 1 else nI 0
theorem bI_t : bI true = nI 1 := rfl
theorem bI_f : bI false = nI 0 := rfl
theorem nI_sub {a b : Nat} (h : b ≤ a) : nI a - nI b = nI (a - b) := by
  have h1 : nI a = nI (a - b) + nI b := by rw [nI_add]; congr 1; omega
  rw [h1]
  generalize nI (a - b) = x
  generalize nI b = y
  exact Int32.add_sub_cancel x y
theorem nI_mul (a b : Nat) : nI a * nI b = nI (a * b) := (Int32.ofNat_mul a b).symm
theorem nI_dec {a : Nat} (h : 1 ≤ a) : nI a + (-1) = nI (a - 1) := by
  obtain ⟨b, rfl⟩ : ∃ b, a = b + 1 := ⟨a - 1, by omega⟩
  rw [nI_succ, Nat.add_sub_cancel]
  generalize nI b = x
  rw [Int32.add_assoc]
  have : (1 : Int32) + (-1) = 0 := by decide
  rw [this, Int32.add_zero]
theorem nI_lt0 {n : Nat} (h : n < 2 ^ 31) : ¬ nI n < 0 := nI_pos h
theorem nI_eq0 {n : Nat} (h : n < 2 ^ 31) : nI n = 0 ↔ n = 0 := by
  rw [← nI_0]; exact nI_eq h (by omega)
theorem bI_eq0 (b : Bool) : bI b = 0 ↔ b = false := by cases b <;> decide
theorem nar_bI (b : Bool) : narrow .boolean (.int (bI b)) = .int (bI b) := by cases b <;> rfl
theorem nar_int (x : Int32) : narrow .int (.int x) = .int x := rfl
theorem vnar_bI (b : Bool) : vp_nar .boolean (bI b) = bI b := by cases b <;> rfl
theorem vnar_1 : vp_nar .boolean (nI 1) = nI 1 := rfl
theorem vnar_0 : vp_nar .boolean (nI 0) = nI 0 := rfl

theorem g_iadd_n {m : Me} {d : Nat} {Q : Po} {pc : Nat} {ls : Lv} {st : St} {M : Mm} {a b : Nat} (hd : decode m.2.1 pc = .ok (.iadd, 1)) (kk : Go m d Q (pc + 1) ls (.int (nI (a + b)) :: st) M) : Go m d Q pc ls (.int (nI b) :: .int (nI a) :: st) M := g_iadd hd (by rw [nI_add]; exact kk)

theorem g_isub_n {m : Me} {d : Nat} {Q : Po} {pc : Nat} {ls : Lv} {st : St} {M : Mm} {a b : Nat} (hd : decode m.2.1 pc = .ok (.isub, 1)) (h : b ≤ a) (kk : Go m d Q (pc + 1) ls (.int (nI (a - b)) :: st) M) : Go m d Q pc ls (.int (nI b) :: .int (nI a) :: st) M := g_isub hd (by rw [nI_sub h]; exact kk)

theorem g_imul_n {m : Me} {d : Nat} {Q : Po} {pc : Nat} {ls : Lv} {st : St} {M : Mm} {a b : Nat} (hd : decode m.2.1 pc = .ok (.imul, 1)) (kk : Go m d Q (pc + 1) ls (.int (nI (a * b)) :: st) M) : Go m d Q pc ls (.int (nI b) :: .int (nI a) :: st) M := g_imul hd (by rw [nI_mul]; exact kk)

theorem g_iinc_n {m : Me} {d : Nat} {Q : Po} {pc : Nat} {ls : Lv} {st : St} {M : Mm} {i a : Nat} {n : Int} (hd : decode m.2.1 pc = .ok (.iinc i n, 3)) (hw : Int32.ofInt n = nI 1) (h : ls[i]? = some (some (.int (nI a)))) (hn : i < m.2.2.1) (ho : okL ls = true) (kk : Go m d Q (pc + 3) (ls.set i (some (.int (nI (a + 1))))) st M) : Go m d Q pc ls st M := g_iinc (nI 1) (nI (a + 1)) hd hw h (nI_add a 1) hn ho kk

theorem g_iinc_p {m : Me} {d : Nat} {Q : Po} {pc : Nat} {ls : Lv} {st : St} {M : Mm} {i a : Nat} {n : Int} (hd : decode m.2.1 pc = .ok (.iinc i n, 3)) (hw : Int32.ofInt n = -1) (h : ls[i]? = some (some (.int (nI a)))) (h1 : 1 ≤ a) (hn : i < m.2.2.1) (ho : okL ls = true) (kk : Go m d Q (pc + 3) (ls.set i (some (.int (nI (a - 1))))) st M) : Go m d Q pc ls st M := g_iinc (-1) (nI (a - 1)) hd hw h (nI_dec h1) hn ho kk

theorem g_iald_n {m : Me} {d : Nat} {Q : Po} {pc : Nat} {ls : Lv} {st : St} {M : Mm} {k n j : Nat} (hd : decode m.2.1 pc = .ok (.iaload, 1)) (hs : sh k = .inl (false, n)) (hk : k < NN) (hn : n < 2 ^ 31) (hj : j < n) (kk : Go m d Q (pc + 1) ls (.int (M k j) :: st) M) : Go m d Q pc ls (.int (nI j) :: .ref k :: st) M := g_iald hd hs hk (nI_in hj hn) (by rw [nI_clamp (by omega)]; exact kk)

theorem g_bald_n {m : Me} {d : Nat} {Q : Po} {pc : Nat} {ls : Lv} {st : St} {M : Mm} {k n j : Nat} (hd : decode m.2.1 pc = .ok (.baload, 1)) (hs : sh k = .inl (true, n)) (hk : k < NN) (hn : n < 2 ^ 31) (hj : j < n) (kk : Go m d Q (pc + 1) ls (.int (M k j) :: st) M) : Go m d Q pc ls (.int (nI j) :: .ref k :: st) M := g_bald hd hs hk (nI_in hj hn) (by rw [nI_clamp (by omega)]; exact kk)

theorem g_iast_n {m : Me} {d : Nat} {Q : Po} {pc : Nat} {ls : Lv} {st : St} {M : Mm} {k n j : Nat} {x : Int32} (hd : decode m.2.1 pc = .ok (.iastore, 1)) (hs : sh k = .inl (false, n)) (hk : k < NN) (hn : n < 2 ^ 31) (hj : j < n) (kk : Go m d Q (pc + 1) ls st (mset M k j x)) : Go m d Q pc ls (.int x :: .int (nI j) :: .ref k :: st) M := g_iast hd hs hk (nI_in hj hn) (by rw [nI_clamp (by omega)]; exact kk)

theorem g_bast_n {m : Me} {d : Nat} {Q : Po} {pc : Nat} {ls : Lv} {st : St} {M : Mm} {k n j : Nat} {x : Int32} (hd : decode m.2.1 pc = .ok (.bastore, 1)) (hs : sh k = .inl (true, n)) (hk : k < NN) (hn : n < 2 ^ 31) (hj : j < n) (hx : vp_nar .boolean x = x) (kk : Go m d Q (pc + 1) ls st (mset M k j x)) : Go m d Q pc ls (.int x :: .int (nI j) :: .ref k :: st) M := g_bast hd hs hk (nI_in hj hn) (by rw [nI_clamp (by omega), hx]; exact kk)

theorem g_icmp_eq_n {m : Me} {d : Nat} {Q : Po} {pc : Nat} {ls : Lv} {st : St} {M : Mm} {a b : Nat} {off : Int} (tgt : Nat) (hd : decode m.2.1 pc = .ok (.if_icmp .eq off, 3)) (ht : (pc : Int) + off = (tgt : Int)) (ha : a < 2 ^ 31) (hb : b < 2 ^ 31) (kt : a = b → Go m d Q tgt ls st M) (kf : ¬ a = b → Go m d Q (pc + 3) ls st M) : Go m d Q pc ls (.int (nI b) :: .int (nI a) :: st) M := g_icmp_eq tgt hd ht (fun h => kt ((nI_eq ha hb).mp h)) (fun h => kf (fun e => h ((nI_eq ha hb).mpr e)))

theorem g_icmp_ne_n {m : Me} {d : Nat} {Q : Po} {pc : Nat} {ls : Lv} {st : St} {M : Mm} {a b : Nat} {off : Int} (tgt : Nat) (hd : decode m.2.1 pc = .ok (.if_icmp .ne off, 3)) (ht : (pc : Int) + off = (tgt : Int)) (ha : a < 2 ^ 31) (hb : b < 2 ^ 31) (kt : ¬ a = b → Go m d Q tgt ls st M) (kf : a = b → Go m d Q (pc + 3) ls st M) : Go m d Q pc ls (.int (nI b) :: .int (nI a) :: st) M := g_icmp_ne tgt hd ht (fun h => kt (fun e => h (e ▸ rfl))) (fun h => kf ((nI_eq ha hb).mp h))

theorem g_icmp_lt_n {m : Me} {d : Nat} {Q : Po} {pc : Nat} {ls : Lv} {st : St} {M : Mm} {a b : Nat} {off : Int} (tgt : Nat) (hd : decode m.2.1 pc = .ok (.if_icmp .lt off, 3)) (ht : (pc : Int) + off = (tgt : Int)) (ha : a < 2 ^ 31) (hb : b < 2 ^ 31) (kt : a < b → Go m d Q tgt ls st M) (kf : ¬ a < b → Go m d Q (pc + 3) ls st M) : Go m d Q pc ls (.int (nI b) :: .int (nI a) :: st) M := g_icmp_lt tgt hd ht (fun h => kt ((nI_ltI ha hb).mp h)) (fun h => kf (fun e => h ((nI_ltI ha hb).mpr e)))

theorem g_icmp_ge_n {m : Me} {d : Nat} {Q : Po} {pc : Nat} {ls : Lv} {st : St} {M : Mm} {a b : Nat} {off : Int} (tgt : Nat) (hd : decode m.2.1 pc = .ok (.if_icmp .ge off, 3)) (ht : (pc : Int) + off = (tgt : Int)) (ha : a < 2 ^ 31) (hb : b < 2 ^ 31) (kt : b ≤ a → Go m d Q tgt ls st M) (kf : ¬ b ≤ a → Go m d Q (pc + 3) ls st M) : Go m d Q pc ls (.int (nI b) :: .int (nI a) :: st) M := g_icmp_ge tgt hd ht (fun h => kt ((nI_leI hb ha).mp h)) (fun h => kf (fun e => h ((nI_leI hb ha).mpr e)))

theorem g_icmp_gt_n {m : Me} {d : Nat} {Q : Po} {pc : Nat} {ls : Lv} {st : St} {M : Mm} {a b : Nat} {off : Int} (tgt : Nat) (hd : decode m.2.1 pc = .ok (.if_icmp .gt off, 3)) (ht : (pc : Int) + off = (tgt : Int)) (ha : a < 2 ^ 31) (hb : b < 2 ^ 31) (kt : b < a → Go m d Q tgt ls st M) (kf : ¬ b < a → Go m d Q (pc + 3) ls st M) : Go m d Q pc ls (.int (nI b) :: .int (nI a) :: st) M := g_icmp_gt tgt hd ht (fun h => kt ((nI_ltI hb ha).mp h)) (fun h => kf (fun e => h ((nI_ltI hb ha).mpr e)))

theorem g_icmp_le_n {m : Me} {d : Nat} {Q : Po} {pc : Nat} {ls : Lv} {st : St} {M : Mm} {a b : Nat} {off : Int} (tgt : Nat) (hd : decode m.2.1 pc = .ok (.if_icmp .le off, 3)) (ht : (pc : Int) + off = (tgt : Int)) (ha : a < 2 ^ 31) (hb : b < 2 ^ 31) (kt : a ≤ b → Go m d Q tgt ls st M) (kf : ¬ a ≤ b → Go m d Q (pc + 3) ls st M) : Go m d Q pc ls (.int (nI b) :: .int (nI a) :: st) M := g_icmp_le tgt hd ht (fun h => kt ((nI_leI ha hb).mp h)) (fun h => kf (fun e => h ((nI_leI ha hb).mpr e)))

theorem g_if_lt_n {m : Me} {d : Nat} {Q : Po} {pc : Nat} {ls : Lv} {st : St} {M : Mm} {a : Nat} {off : Int} (tgt : Nat) (hd : decode m.2.1 pc = .ok (.ifCond .lt off, 3)) (ht : (pc : Int) + off = (tgt : Int)) (ha : a < 2 ^ 31) (kf : Go m d Q (pc + 3) ls st M) : Go m d Q pc ls (.int (nI a) :: st) M := g_if_lt tgt hd ht (fun h => absurd h (nI_lt0 ha)) (fun _ => kf)

theorem g_if_ge_n {m : Me} {d : Nat} {Q : Po} {pc : Nat} {ls : Lv} {st : St} {M : Mm} {a : Nat} {off : Int} (tgt : Nat) (hd : decode m.2.1 pc = .ok (.ifCond .ge off, 3)) (ht : (pc : Int) + off = (tgt : Int)) (ha : a < 2 ^ 31) (kt : Go m d Q tgt ls st M) : Go m d Q pc ls (.int (nI a) :: st) M := g_if_ge tgt hd ht (fun _ => kt) (fun h => absurd (nI_pos' ha) h)

theorem g_if_eq_n {m : Me} {d : Nat} {Q : Po} {pc : Nat} {ls : Lv} {st : St} {M : Mm} {a : Nat} {off : Int} (tgt : Nat) (hd : decode m.2.1 pc = .ok (.ifCond .eq off, 3)) (ht : (pc : Int) + off = (tgt : Int)) (ha : a < 2 ^ 31) (kt : a = 0 → Go m d Q tgt ls st M) (kf : ¬ a = 0 → Go m d Q (pc + 3) ls st M) : Go m d Q pc ls (.int (nI a) :: st) M := g_if_eq tgt hd ht (fun h => kt ((nI_eq0 ha).mp h)) (fun h => kf (fun e => h ((nI_eq0 ha).mpr e)))

theorem g_if_ne_n {m : Me} {d : Nat} {Q : Po} {pc : Nat} {ls : Lv} {st : St} {M : Mm} {a : Nat} {off : Int} (tgt : Nat) (hd : decode m.2.1 pc = .ok (.ifCond .ne off, 3)) (ht : (pc : Int) + off = (tgt : Int)) (ha : a < 2 ^ 31) (kt : ¬ a = 0 → Go m d Q tgt ls st M) (kf : a = 0 → Go m d Q (pc + 3) ls st M) : Go m d Q pc ls (.int (nI a) :: st) M := g_if_ne tgt hd ht (fun h => kt (fun e => h ((nI_eq0 ha).mpr e))) (fun h => kf ((nI_eq0 ha).mp h))

theorem g_if_le_n {m : Me} {d : Nat} {Q : Po} {pc : Nat} {ls : Lv} {st : St} {M : Mm} {a : Nat} {off : Int} (tgt : Nat) (hd : decode m.2.1 pc = .ok (.ifCond .le off, 3)) (ht : (pc : Int) + off = (tgt : Int)) (ha : a < 2 ^ 31) (kt : a = 0 → Go m d Q tgt ls st M) (kf : ¬ a = 0 → Go m d Q (pc + 3) ls st M) : Go m d Q pc ls (.int (nI a) :: st) M := g_if_le tgt hd ht (fun h => kt (by rw [← nI_0, nI_leI ha (by omega)] at h; omega)) (fun h => kf (fun e => h (by rw [e, nI_0]; exact Int32.le_refl 0)))

theorem g_if_gt_n {m : Me} {d : Nat} {Q : Po} {pc : Nat} {ls : Lv} {st : St} {M : Mm} {a : Nat} {off : Int} (tgt : Nat) (hd : decode m.2.1 pc = .ok (.ifCond .gt off, 3)) (ht : (pc : Int) + off = (tgt : Int)) (ha : a < 2 ^ 31) (kt : ¬ a = 0 → Go m d Q tgt ls st M) (kf : a = 0 → Go m d Q (pc + 3) ls st M) : Go m d Q pc ls (.int (nI a) :: st) M := g_if_gt tgt hd ht (fun h => kt (fun e => by rw [e, nI_0] at h; exact absurd h (by decide))) (fun h => kf (by rw [← nI_0, nI_ltI (by omega) ha] at h; omega))

theorem g_if_eq_b {m : Me} {d : Nat} {Q : Po} {pc : Nat} {ls : Lv} {st : St} {M : Mm} {b : Bool} {off : Int} (tgt : Nat) (hd : decode m.2.1 pc = .ok (.ifCond .eq off, 3)) (ht : (pc : Int) + off = (tgt : Int)) (kt : b = false → Go m d Q tgt ls st M) (kf : b = true → Go m d Q (pc + 3) ls st M) : Go m d Q pc ls (.int (bI b) :: st) M := g_if_eq tgt hd ht (fun h => kt ((bI_eq0 b).mp h)) (fun h => kf (by cases b with | false => exact absurd rfl h | true => rfl))

theorem g_if_ne_b {m : Me} {d : Nat} {Q : Po} {pc : Nat} {ls : Lv} {st : St} {M : Mm} {b : Bool} {off : Int} (tgt : Nat) (hd : decode m.2.1 pc = .ok (.ifCond .ne off, 3)) (ht : (pc : Int) + off = (tgt : Int)) (kt : b = true → Go m d Q tgt ls st M) (kf : b = false → Go m d Q (pc + 3) ls st M) : Go m d Q pc ls (.int (bI b) :: st) M := g_if_ne tgt hd ht (fun h => kt (by cases b with | false => exact absurd rfl h | true => rfl)) (fun h => kf ((bI_eq0 b).mp h))

theorem g_call0 {m y : Me} {d : Nat} {Q : Po} {pc : Nat} {ls : Lv} {st : St} {M : Mm} {k ci idx N : Nat} {C : String} {T : u_T} {fs : List (Option Nat)} (hd : decode m.2.1 pc = .ok (.invokevirtual idx, 3)) (hyV : gCalV y 0) (hlk : Cond.methodLink m.1.cls idx y.1 ∈ TB) (hc : gCl ci C T N) (hC : C = y.1.cls) (hs : sh k = .inr (ci, fs)) (hk : k < NN) (hcat : (st.map fun v => v.category).sum ≤ 8) (kk : Call d y [.ref k] M (fun M' r => Go m (d + 1) Q (pc + 3) ls (r.toList ++ st) M')) : Go m (d + 1) Q pc ls (.ref k :: st) M := g_callV [] hd hyV hlk hc hC hs hk rfl hcat kk

theorem g_call1 {m y : Me} {d : Nat} {Q : Po} {pc : Nat} {ls : Lv} {st : St} {M : Mm} {a1 : Value} {k ci idx N : Nat} {C : String} {T : u_T} {fs : List (Option Nat)} (hd : decode m.2.1 pc = .ok (.invokevirtual idx, 3)) (hyV : gCalV y 1) (hlk : Cond.methodLink m.1.cls idx y.1 ∈ TB) (hc : gCl ci C T N) (hC : C = y.1.cls) (hs : sh k = .inr (ci, fs)) (hk : k < NN) (hcat : (st.map fun v => v.category).sum ≤ 8) (kk : Call d y [.ref k, a1] M (fun M' r => Go m (d + 1) Q (pc + 3) ls (r.toList ++ st) M')) : Go m (d + 1) Q pc ls (a1 :: .ref k :: st) M := g_callV [a1] hd hyV hlk hc hC hs hk rfl hcat kk

theorem g_call2 {m y : Me} {d : Nat} {Q : Po} {pc : Nat} {ls : Lv} {st : St} {M : Mm} {a1 a2 : Value} {k ci idx N : Nat} {C : String} {T : u_T} {fs : List (Option Nat)} (hd : decode m.2.1 pc = .ok (.invokevirtual idx, 3)) (hyV : gCalV y 2) (hlk : Cond.methodLink m.1.cls idx y.1 ∈ TB) (hc : gCl ci C T N) (hC : C = y.1.cls) (hs : sh k = .inr (ci, fs)) (hk : k < NN) (hcat : (st.map fun v => v.category).sum ≤ 8) (kk : Call d y [.ref k, a1, a2] M (fun M' r => Go m (d + 1) Q (pc + 3) ls (r.toList ++ st) M')) : Go m (d + 1) Q pc ls (a2 :: a1 :: .ref k :: st) M := g_callV [a1, a2] hd hyV hlk hc hC hs hk rfl hcat kk

theorem g_call3 {m y : Me} {d : Nat} {Q : Po} {pc : Nat} {ls : Lv} {st : St} {M : Mm} {a1 a2 a3 : Value} {k ci idx N : Nat} {C : String} {T : u_T} {fs : List (Option Nat)} (hd : decode m.2.1 pc = .ok (.invokevirtual idx, 3)) (hyV : gCalV y 3) (hlk : Cond.methodLink m.1.cls idx y.1 ∈ TB) (hc : gCl ci C T N) (hC : C = y.1.cls) (hs : sh k = .inr (ci, fs)) (hk : k < NN) (hcat : (st.map fun v => v.category).sum ≤ 8) (kk : Call d y [.ref k, a1, a2, a3] M (fun M' r => Go m (d + 1) Q (pc + 3) ls (r.toList ++ st) M')) : Go m (d + 1) Q pc ls (a3 :: a2 :: a1 :: .ref k :: st) M := g_callV [a1, a2, a3] hd hyV hlk hc hC hs hk rfl hcat kk

theorem g_call4 {m y : Me} {d : Nat} {Q : Po} {pc : Nat} {ls : Lv} {st : St} {M : Mm} {a1 a2 a3 a4 : Value} {k ci idx N : Nat} {C : String} {T : u_T} {fs : List (Option Nat)} (hd : decode m.2.1 pc = .ok (.invokevirtual idx, 3)) (hyV : gCalV y 4) (hlk : Cond.methodLink m.1.cls idx y.1 ∈ TB) (hc : gCl ci C T N) (hC : C = y.1.cls) (hs : sh k = .inr (ci, fs)) (hk : k < NN) (hcat : (st.map fun v => v.category).sum ≤ 8) (kk : Call d y [.ref k, a1, a2, a3, a4] M (fun M' r => Go m (d + 1) Q (pc + 3) ls (r.toList ++ st) M')) : Go m (d + 1) Q pc ls (a4 :: a3 :: a2 :: a1 :: .ref k :: st) M := g_callV [a1, a2, a3, a4] hd hyV hlk hc hC hs hk rfl hcat kk

theorem g_calls1 {m y : Me} {d : Nat} {Q : Po} {pc : Nat} {ls : Lv} {st : St} {M : Mm} {a1 : Value} {idx : Nat} (hd : decode m.2.1 pc = .ok (.invokestatic idx, 3)) (hyV : gCalS y 1) (hlk : Cond.methodLink m.1.cls idx y.1 ∈ TB) (hcat : (st.map fun v => v.category).sum ≤ 8) (kk : Call d y [a1] M (fun M' r => Go m (d + 1) Q (pc + 3) ls (r.toList ++ st) M')) : Go m (d + 1) Q pc ls (a1 :: st) M := g_callS [a1] hd hyV hlk rfl hcat kk

theorem g_calls2 {m y : Me} {d : Nat} {Q : Po} {pc : Nat} {ls : Lv} {st : St} {M : Mm} {a1 a2 : Value} {idx : Nat} (hd : decode m.2.1 pc = .ok (.invokestatic idx, 3)) (hyV : gCalS y 2) (hlk : Cond.methodLink m.1.cls idx y.1 ∈ TB) (hcat : (st.map fun v => v.category).sum ≤ 8) (kk : Call d y [a1, a2] M (fun M' r => Go m (d + 1) Q (pc + 3) ls (r.toList ++ st) M')) : Go m (d + 1) Q pc ls (a2 :: a1 :: st) M := g_callS [a1, a2] hd hyV hlk rfl hcat kk

theorem g_calls3 {m y : Me} {d : Nat} {Q : Po} {pc : Nat} {ls : Lv} {st : St} {M : Mm} {a1 a2 a3 : Value} {idx : Nat} (hd : decode m.2.1 pc = .ok (.invokestatic idx, 3)) (hyV : gCalS y 3) (hlk : Cond.methodLink m.1.cls idx y.1 ∈ TB) (hcat : (st.map fun v => v.category).sum ≤ 8) (kk : Call d y [a1, a2, a3] M (fun M' r => Go m (d + 1) Q (pc + 3) ls (r.toList ++ st) M')) : Go m (d + 1) Q pc ls (a3 :: a2 :: a1 :: st) M := g_callS [a1, a2, a3] hd hyV hlk rfl hcat kk

theorem g_calls4 {m y : Me} {d : Nat} {Q : Po} {pc : Nat} {ls : Lv} {st : St} {M : Mm} {a1 a2 a3 a4 : Value} {idx : Nat} (hd : decode m.2.1 pc = .ok (.invokestatic idx, 3)) (hyV : gCalS y 4) (hlk : Cond.methodLink m.1.cls idx y.1 ∈ TB) (hcat : (st.map fun v => v.category).sum ≤ 8) (kk : Call d y [a1, a2, a3, a4] M (fun M' r => Go m (d + 1) Q (pc + 3) ls (r.toList ++ st) M')) : Go m (d + 1) Q pc ls (a4 :: a3 :: a2 :: a1 :: st) M := g_callS [a1, a2, a3, a4] hd hyV hlk rfl hcat kk

theorem g_calls5 {m y : Me} {d : Nat} {Q : Po} {pc : Nat} {ls : Lv} {st : St} {M : Mm} {a1 a2 a3 a4 a5 : Value} {idx : Nat} (hd : decode m.2.1 pc = .ok (.invokestatic idx, 3)) (hyV : gCalS y 5) (hlk : Cond.methodLink m.1.cls idx y.1 ∈ TB) (hcat : (st.map fun v => v.category).sum ≤ 8) (kk : Call d y [a1, a2, a3, a4, a5] M (fun M' r => Go m (d + 1) Q (pc + 3) ls (r.toList ++ st) M')) : Go m (d + 1) Q pc ls (a5 :: a4 :: a3 :: a2 :: a1 :: st) M := g_callS [a1, a2, a3, a4, a5] hd hyV hlk rfl hcat kk

theorem g_calln1 {m y : Me} {d : Nat} {Q : Po} {pc : Nat} {ls : Lv} {st : St} {M : Mm} {a1 : Value} {idx : Nat} {host : String} (hd : decode m.2.1 pc = .ok (.invokestatic idx, 3)) (hyV : gCalS y 1) (hlk : (m.1.cls, idx, y.1, host) ∈ nestM) (hcat : (st.map fun v => v.category).sum ≤ 8) (kk : Call d y [a1] M (fun M' r => Go m (d + 1) Q (pc + 3) ls (r.toList ++ st) M')) : Go m (d + 1) Q pc ls (a1 :: st) M := g_callN [a1] host hd hyV hlk rfl hcat kk

theorem g_call5 {m y : Me} {d : Nat} {Q : Po} {pc : Nat} {ls : Lv} {st : St} {M : Mm} {a1 a2 a3 a4 a5 : Value} {k ci idx N : Nat} {C : String} {T : u_T} {fs : List (Option Nat)} (hd : decode m.2.1 pc = .ok (.invokevirtual idx, 3)) (hyV : gCalV y 5) (hlk : Cond.methodLink m.1.cls idx y.1 ∈ TB) (hc : gCl ci C T N) (hC : C = y.1.cls) (hs : sh k = .inr (ci, fs)) (hk : k < NN) (hcat : (st.map fun v => v.category).sum ≤ 8) (kk : Call d y [.ref k, a1, a2, a3, a4, a5] M (fun M' r => Go m (d + 1) Q (pc + 3) ls (r.toList ++ st) M')) : Go m (d + 1) Q pc ls (a5 :: a4 :: a3 :: a2 :: a1 :: .ref k :: st) M := g_callV [a1, a2, a3, a4, a5] hd hyV hlk hc hC hs hk rfl hcat kk

