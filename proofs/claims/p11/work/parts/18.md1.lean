/-! THE REFERENCE: its row holds the state; what it asks -/
/-- without duties, what stands where the first one would -/
def MX (w : Nat → Int32) (n : Nat) : Prop := n = 0 → ∃ a k q x : Nat, a ≤ 365 ∧ k ≤ 3 ∧ q ≤ 8 ∧ x ≤ 9 ∧ w 251 = nI a ∧ w 275 = nI k ∧ w 299 = hv q ∧ (q < 8 → w (323 + 24 * q) = nI x)
theorem MX.pos {w : Nat → Int32} {n : Nat} (h : 0 < n) : MX w n := fun z => absurd z (by omega)
theorem MX.keep {w w' : Nat → Int32} {n : Nat} (h : MX w n) (hk : ∀ j, (j = 251 ∨ j = 275 ∨ j = 299 ∨ (323 ≤ j ∧ j < 515)) → w' j = w j) : MX w' n := by
  intro z
  obtain ⟨a, k, q, x, h1, h2, h3, h4, h5, h6, h7, h8⟩ := h z
  refine ⟨a, k, q, x, h1, h2, h3, h4, ?_, ?_, ?_, fun hq => ?_⟩
  · rw [hk 251 (by omega)]; exact h5
  · rw [hk 275 (by omega)]; exact h6
  · rw [hk 299 (by omega)]; exact h7
  · rw [hk _ (by omega)]; exact h8 hq
def MK (w : Nat → Int32) (S : BS) : Prop := WF S ∧ w 0 = nI (S 0 0 0) ∧ w 1 = nI (S 2 0 0) ∧ w 2 = nI (S 1 0 0) ∧ (∀ p, p < S 0 0 0 → w (3 + p) = nI (S 4 p 0) ∧ w (11 + p) = nI (S 3 p 0) ∧ w (51 + p) = nI (S 6 p 0)) ∧ (∀ p k, p < S 0 0 0 → k < 4 → w (19 + 4 * p + k) = nI (S 5 p k)) ∧
  (∀ p r, p < S 0 0 0 → r < S 6 p 0 → w (59 + 24 * p + 3 * r) = nI (S 7 p r) ∧ w (59 + 24 * p + 3 * r + 1) = nI (S 8 p r) ∧ (S 7 p r ≠ 1 → w (59 + 24 * p + 3 * r + 2) = nI (S 9 p r))) ∧ (∀ d, d < S 1 0 0 → w (251 + d) = nI (S 10 d 0) ∧ w (275 + d) = nI (S 11 d 0) ∧ w (299 + d) = hv (S 12 d 0)) ∧ (∀ p d, p < S 0 0 0 → d < S 1 0 0 → w (323 + 24 * p + d) = nI (S 13 p d)) ∧ MX w (S 1 0 0)
theorem MK.wf {w : Nat → Int32} {S : BS} (h : MK w S) : WF S := h.1
theorem MK.np {w : Nat → Int32} {S : BS} (h : MK w S) : w 0 = nI (S 0 0 0) := h.2.1
theorem MK.yr {w : Nat → Int32} {S : BS} (h : MK w S) : w 1 = nI (S 2 0 0) := h.2.2.1
theorem MK.nd {w : Nat → Int32} {S : BS} (h : MK w S) : w 2 = nI (S 1 0 0) := h.2.2.2.1
theorem MK.hN {w : Nat → Int32} {S : BS} (h : MK w S) {p : Nat} (hp : p < S 0 0 0) : w (3 + p) = nI (S 4 p 0) := (h.2.2.2.2.1 p hp).1
theorem MK.rk {w : Nat → Int32} {S : BS} (h : MK w S) {p : Nat} (hp : p < S 0 0 0) : w (11 + p) = nI (S 3 p 0) := (h.2.2.2.2.1 p hp).2.1
theorem MK.nr {w : Nat → Int32} {S : BS} (h : MK w S) {p : Nat} (hp : p < S 0 0 0) : w (51 + p) = nI (S 6 p 0) := (h.2.2.2.2.1 p hp).2.2
theorem MK.ps {w : Nat → Int32} {S : BS} (h : MK w S) {p k : Nat} (hp : p < S 0 0 0) (hk : k < 4) : w (19 + 4 * p + k) = nI (S 5 p k) := h.2.2.2.2.2.1 p k hp hk
theorem MK.rs {w : Nat → Int32} {S : BS} (h : MK w S) {p r : Nat} (hp : p < S 0 0 0) (hr : r < S 6 p 0) : w (59 + 24 * p + 3 * r) = nI (S 7 p r) := (h.2.2.2.2.2.2.1 p r hp hr).1
theorem MK.ra {w : Nat → Int32} {S : BS} (h : MK w S) {p r : Nat} (hp : p < S 0 0 0) (hr : r < S 6 p 0) : w (59 + 24 * p + 3 * r + 1) = nI (S 8 p r) := (h.2.2.2.2.2.2.1 p r hp hr).2.1
theorem MK.rb {w : Nat → Int32} {S : BS} (h : MK w S) {p r : Nat} (hp : p < S 0 0 0) (hr : r < S 6 p 0) (h1 : S 7 p r ≠ 1) : w (59 + 24 * p + 3 * r + 2) = nI (S 9 p r) := (h.2.2.2.2.2.2.1 p r hp hr).2.2 h1
theorem MK.dy {w : Nat → Int32} {S : BS} (h : MK w S) {d : Nat} (hd : d < S 1 0 0) : w (251 + d) = nI (S 10 d 0) := (h.2.2.2.2.2.2.2.1 d hd).1
theorem MK.kd {w : Nat → Int32} {S : BS} (h : MK w S) {d : Nat} (hd : d < S 1 0 0) : w (275 + d) = nI (S 11 d 0) := (h.2.2.2.2.2.2.2.1 d hd).2.1
theorem MK.ho {w : Nat → Int32} {S : BS} (h : MK w S) {d : Nat} (hd : d < S 1 0 0) : w (299 + d) = hv (S 12 d 0) := (h.2.2.2.2.2.2.2.1 d hd).2.2
theorem MK.dl {w : Nat → Int32} {S : BS} (h : MK w S) {p d : Nat} (hp : p < S 0 0 0) (hd : d < S 1 0 0) : w (323 + 24 * p + d) = nI (S 13 p d) := h.2.2.2.2.2.2.2.2.1 p d hp hd
theorem MK.mx {w : Nat → Int32} {S : BS} (h : MK w S) : MX w (S 1 0 0) := h.2.2.2.2.2.2.2.2.2
/-- its rows of burdens and letters -/
def lw (k : Nat) : Nat := [104, 101, 110, 112].getD k 0
def MC (M : Mm) : Prop := (∀ j, j < 4 → M 60 j = nI (lw j)) ∧ ∀ j, j < 4 → M 61 j = nI (bw j)
theorem MC.bw {M : Mm} (h : MC M) {j : Nat} (hj : j < 4) : M 61 j = nI (bw j) := h.2 j hj
theorem MC.lw {M : Mm} (h : MC M) {j : Nat} (hj : j < 4) : M 60 j = nI (lw j) := h.1 j hj
def inJ (a b c : Int64) : Bool := decide (b.toInt ≤ a.toInt ∧ a.toInt ≤ c.toInt)
theorem SM_in {d : Nat} {M : Mm} {Q : Po} (a b c : Int64) (h : Q M (some (.int (bI (inJ a b c))))) : Call (d + 1) mM_in [.long a, .long b, .long c] M Q := by
  refine Call_of (m := mM_in) [some (.long a), none, some (.long b), none, some (.long c), none] rfl (fun G => Nat.le_of_ble_eq_true rfl) (fun G => rfl) ?_
  refine g_lload_n dX10_in_0 rfl ?_
  refine g_lload_n dX10_in_1 rfl ?_
  refine g_lcmp dX10_in_2 ?_
  refine g_if_lt 17 dX10_in_3 (by decide) (fun c3 => ?_) (fun c3 => ?_)
  · have h1 : ¬ b ≤ a := fun q => by
      have := (lg_cmp_ge a b).mpr q
      exact absurd c3 (Int32.not_lt.mpr this)
    refine g_iconst (nI 0) dX10_in_17 ki_0 ?_
    refine g_ireturn dX10_in_18 rfl (by first | rfl | exact nar_bI _) ?_
    refine qb_f h ?_
    unfold inJ
    rw [Int64.le_iff_toInt_le] at h1
    exact decide_eq_false (fun q => h1 q.1)
  · have h1 : b ≤ a := (lg_cmp_ge a b).mp (Int32.not_lt.mp c3)
    rw [Int64.le_iff_toInt_le] at h1
    refine g_lload_n dX10_in_6 rfl ?_
    refine g_lload dX10_in_7 rfl ?_
    refine g_lcmp dX10_in_9 ?_
    refine g_if_gt 17 dX10_in_10 (by decide) (fun c10 => ?_) (fun c10 => ?_)
    · have h2 : ¬ a ≤ c := fun q => by
        have := (lg_cmp_le a c).mpr q
        exact absurd c10 (Int32.not_lt.mpr this)
      rw [Int64.le_iff_toInt_le] at h2
      refine g_iconst (nI 0) dX10_in_17 ki_0 ?_
      refine g_ireturn dX10_in_18 rfl (by first | rfl | exact nar_bI _) ?_
      exact qb_f h (decide_eq_false (fun q => h2 q.2))
    · have h2 : a ≤ c := (lg_cmp_le a c).mp (Int32.not_lt.mp c10)
      rw [Int64.le_iff_toInt_le] at h2
      refine g_iconst (nI 1) dX10_in_13 ki_1 ?_
      refine g_goto 18 dX10_in_14 (by decide) ?_
      refine g_ireturn dX10_in_18 rfl (by first | rfl | exact nar_bI _) ?_
      exact qb_t h (decide_eq_true ⟨h1, h2⟩)
theorem pred_toInt {n : Nat} (h : n < 2 ^ 30) : (nI n - nI 1).toInt = (n : Int) - 1 := by
  rw [Int32.toInt_sub, nI_toInt (by omega), nI_toInt (by omega), Int.bmod_def]
  split <;> omega
theorem inJ_R {x : Int32} {n : Nat} (h : n < 2 ^ 30) : inJ x.toInt64 0 (nI n - nI 1).toInt64 = inR x n := by
  unfold inJ inR
  rw [Int32.toInt_toInt64, Int32.toInt_toInt64, pred_toInt h]
  congr 1
  have : (0 : Int64).toInt = 0 := by decide
  rw [this]
  exact propext ⟨fun q => ⟨q.1, by omega⟩, fun q => ⟨q.1, by omega⟩⟩
theorem inJ_L {x : Int32} {c : Int64} {n : Nat} (h : c.toInt + 1 = n) : inJ x.toInt64 0 c = inR x n := by
  unfold inJ inR
  rw [Int32.toInt_toInt64]
  congr 1
  have : (0 : Int64).toInt = 0 := by decide
  rw [this]
  exact propext ⟨fun q => ⟨q.1, by omega⟩, fun q => ⟨q.1, by omega⟩⟩
theorem SM_isOne {d : Nat} {M : Mm} {S : BS} {Q : Po} (hM : MK (M 58) S) (x : Int32) (h : Q M (some (.int (bI (inR x (S 0 0 0)))))) : Call (d + 2) mM_isOne [.ref 57, .int x] M Q := by
  have hw := hM.wf.np
  refine Call_of (m := mM_isOne) [some (.ref 57), some (.int x)] rfl (fun G => Nat.le_of_ble_eq_true rfl) (fun G => rfl) ?_
  refine g_iload_n dX10_isOne_0 rfl ?_
  refine g_i2l dX10_isOne_1 ?_
  refine g_lconst (0) dX10_isOne_2 (by decide) ?_
  refine g_aload_n dX10_isOne_3 rfl ?_
  refine g_getr (j := 0) dX10_isOne_4 gc10 rfl (by decide) rfl (by decide) fl_M_9 ?_
  refine g_iconst (nI 0) dX10_isOne_7 ki_0 ?_
  refine g_iald_n dX10_isOne_8 (by first | rfl | assumption) (by first | decide | assumption) (by omega) (by omega) ?_
  try simp (disch := omega) only [hM.np]
  refine g_iconst (nI 1) dX10_isOne_9 ki_1 ?_
  first | refine g_isub_n dX10_isOne_10 (by omega) ?_ | refine g_isub dX10_isOne_10 ?_
  refine g_i2l dX10_isOne_11 ?_
  refine g_calls3 dX10_isOne_12 clM_in ml_M_68 (Nat.le_of_ble_eq_true rfl) ?_
  refine SM_in _ _ _ ?_
  rw [inJ_R (by omega)]
  refine g_ireturn dX10_isOne_15 rfl (by first | rfl | exact nar_bI _) ?_
  exact h
theorem SM_isOneT {d : Nat} {M : Mm} {S : BS} {Q : Po} (hM : MK (M 58) S) {p : Nat} (hp : p < S 0 0 0) (h : Q M (some (.int (bI true)))) : Call (d + 2) mM_isOne [.ref 57, .int (nI p)] M Q := by
  have hw := hM.wf.np
  refine SM_isOne hM _ ?_
  rw [inR_nI (by omega), decide_eq_true hp]
  exact h
theorem SM_isDuty {d : Nat} {M : Mm} {S : BS} {Q : Po} (hM : MK (M 58) S) (x : Int32) (h : Q M (some (.int (bI (inR x (S 1 0 0)))))) : Call (d + 2) mM_isDuty [.ref 57, .int x] M Q := by
  have hw := hM.wf.nd
  refine Call_of (m := mM_isDuty) [some (.ref 57), some (.int x)] rfl (fun G => Nat.le_of_ble_eq_true rfl) (fun G => rfl) ?_
  refine g_iload_n dX10_isDuty_0 rfl ?_
  refine g_i2l dX10_isDuty_1 ?_
  refine g_lconst (0) dX10_isDuty_2 (by decide) ?_
  refine g_aload_n dX10_isDuty_3 rfl ?_
  refine g_getr (j := 0) dX10_isDuty_4 gc10 rfl (by decide) rfl (by decide) fl_M_9 ?_
  refine g_iconst (nI 2) dX10_isDuty_7 ki_2 ?_
  refine g_iald_n dX10_isDuty_8 (by first | rfl | assumption) (by first | decide | assumption) (by omega) (by omega) ?_
  try simp (disch := omega) only [hM.nd]
  refine g_iconst (nI 1) dX10_isDuty_9 ki_1 ?_
  first | refine g_isub_n dX10_isDuty_10 (by omega) ?_ | refine g_isub dX10_isDuty_10 ?_
  refine g_i2l dX10_isDuty_11 ?_
  refine g_calls3 dX10_isDuty_12 clM_in ml_M_68 (Nat.le_of_ble_eq_true rfl) ?_
  refine SM_in _ _ _ ?_
  rw [inJ_R (by omega)]
  refine g_ireturn dX10_isDuty_15 rfl (by first | rfl | exact nar_bI _) ?_
  exact h
theorem SM_isKind {d : Nat} {M : Mm} {Q : Po} (x : Int32) (h : Q M (some (.int (bI (inR x 4))))) : Call (d + 2) mM_isKind [.int x] M Q := by
  refine Call_of (m := mM_isKind) [some (.int x)] rfl (fun G => Nat.le_of_ble_eq_true rfl) (fun G => rfl) ?_
  refine g_iload_n dX10_isKind_0 rfl ?_
  refine g_i2l dX10_isKind_1 ?_
  refine g_lconst (0) dX10_isKind_2 (by decide) ?_
  refine g_ldc2w (3) dX10_isKind_3 kl_M_76 ?_
  refine g_calls3 dX10_isKind_6 clM_in ml_M_68 (Nat.le_of_ble_eq_true rfl) ?_
  refine SM_in _ _ _ ?_
  rw [inJ_L (n := 4) (by decide)]
  refine g_ireturn dX10_isKind_9 rfl (by first | rfl | exact nar_bI _) ?_
  exact h
theorem SM_isHere {d : Nat} {M : Mm} {S : BS} {Q : Po} (hM : MK (M 58) S) {p : Nat} (hp : p < 2 ^ 31) (h : Q M (some (.int (bI (hr S p))))) : Call (d + 3) mM_isHere [.ref 57, .int (nI p)] M Q := by
  have hw := hM.wf.np
  refine Call_of (m := mM_isHere) [some (.ref 57), some (.int (nI p))] rfl (fun G => Nat.le_of_ble_eq_true rfl) (fun G => rfl) ?_
  refine g_aload_n dX10_isHere_0 rfl ?_
  refine g_iload_n dX10_isHere_1 rfl ?_
  refine g_call1 dX10_isHere_2 clM_isOne ml_M_72 gc10 rfl rfl (by decide) (Nat.le_of_ble_eq_true rfl) ?_
  refine SM_isOne hM _ ?_
  rw [inR_nI hp]
  refine g_if_eq_b 24 dX10_isHere_5 (by decide) (fun c5 => ?_) (fun c5 => ?_)
  · refine g_iconst (nI 0) dX10_isHere_24 ki_0 ?_
    refine g_ireturn dX10_isHere_25 rfl (by first | rfl | exact nar_bI _) ?_
    have h0 := hM.wf.out (p := p) (by have := of_decide_eq_false c5; omega)
    exact qb_f h (by unfold hr; rw [h0]; rfl)
  · have hpn := of_decide_eq_true c5
    have h1 := hM.wf.hN (p := p) (by omega)
    refine g_aload_n dX10_isHere_8 rfl ?_
    refine g_getr (j := 0) dX10_isHere_9 gc10 rfl (by decide) rfl (by decide) fl_M_9 ?_
    refine g_iconst (nI 3) dX10_isHere_12 ki_3 ?_
    refine g_iload_n dX10_isHere_13 rfl ?_
    first | refine g_iadd_n dX10_isHere_14 ?_ | refine g_iadd dX10_isHere_14 ?_
    refine g_iald_n dX10_isHere_15 (by first | rfl | assumption) (by first | decide | assumption) (by omega) (by omega) ?_
    try simp (disch := omega) only [hM.hN]
    refine g_iconst (nI 1) dX10_isHere_16 ki_1 ?_
    refine g_icmp_ne_n 24 dX10_isHere_17 (by decide) (by omega) (by omega) (fun c17 => ?_) (fun c17 => ?_)
    · refine g_iconst (nI 0) dX10_isHere_24 ki_0 ?_
      refine g_ireturn dX10_isHere_25 rfl (by first | rfl | exact nar_bI _) ?_
      exact qb_f h (by unfold hr; simpa using c17)
    · refine g_iconst (nI 1) dX10_isHere_20 ki_1 ?_
      refine g_goto 25 dX10_isHere_21 (by decide) ?_
      refine g_ireturn dX10_isHere_25 rfl (by first | rfl | exact nar_bI _) ?_
      exact qb_t h (by unfold hr; simpa using c17)
theorem SM_holder {d : Nat} {M : Mm} {S : BS} {Q : Po} (hM : MK (M 58) S) {e : Nat} (he : e < S 1 0 0) (h : Q M (some (.int (hv (S 12 e 0))))) : Call (d + 1) mM_holder [.ref 57, .int (nI e)] M Q := by
  have hw := hM.wf.nd
  refine Call_of (m := mM_holder) [some (.ref 57), some (.int (nI e))] rfl (fun G => Nat.le_of_ble_eq_true rfl) (fun G => rfl) ?_
  refine g_aload_n dX10_holder_0 rfl ?_
  refine g_getr (j := 0) dX10_holder_1 gc10 rfl (by decide) rfl (by decide) fl_M_9 ?_
  refine g_sipush (nI 299) dX10_holder_4 ks_299 ?_
  refine g_iload_n dX10_holder_7 rfl ?_
  first | refine g_iadd_n dX10_holder_8 ?_ | refine g_iadd dX10_holder_8 ?_
  refine g_iald_n dX10_holder_9 (by first | rfl | assumption) (by first | decide | assumption) (by omega) (by omega) ?_
  try simp (disch := omega) only [hM.ho]
  refine g_ireturn dX10_holder_10 rfl (by first | rfl | exact nar_bI _) ?_
  exact h
theorem SM_past {d : Nat} {M : Mm} {S : BS} {Q : Po} (hM : MK (M 58) S) {p k : Nat} (hp : p < S 0 0 0) (hk : k < 4) (h : Q M (some (.int (nI (S 5 p k))))) : Call (d + 1) mM_past [.ref 57, .int (nI p), .int (nI k)] M Q := by
  have hw := hM.wf.np
  refine Call_of (m := mM_past) [some (.ref 57), some (.int (nI p)), some (.int (nI k))] rfl (fun G => Nat.le_of_ble_eq_true rfl) (fun G => rfl) ?_
  refine g_aload_n dX10_past_0 rfl ?_
  refine g_getr (j := 0) dX10_past_1 gc10 rfl (by decide) rfl (by decide) fl_M_9 ?_
  refine g_bipush (nI 19) dX10_past_4 kb_19 ?_
  refine g_iconst (nI 4) dX10_past_6 ki_4 ?_
  refine g_iload_n dX10_past_7 rfl ?_
  first | refine g_imul_n dX10_past_8 ?_ | refine g_imul dX10_past_8 ?_
  first | refine g_iadd_n dX10_past_9 ?_ | refine g_iadd dX10_past_9 ?_
  refine g_iload_n dX10_past_10 rfl ?_
  first | refine g_iadd_n dX10_past_11 ?_ | refine g_iadd dX10_past_11 ?_
  refine g_iald_n dX10_past_12 (by first | rfl | assumption) (by first | decide | assumption) (by omega) (by omega) ?_
  try simp (disch := omega) only [hM.ps]
  refine g_ireturn dX10_past_13 rfl (by first | rfl | exact nar_bI _) ?_
  exact h
theorem SM_head {d : Nat} {M : Mm} {S : BS} {Q : Po} (hM : MK (M 58) S) {p k : Nat} (hp : p < S 0 0 0) (hk : k < 4) (h : Q M (some (.int (nI (headN S p k))))) : Call (d + 1) mM_head [.ref 57, .int (nI p), .int (nI k)] M Q := by
  have hw := hM.wf.np
  have hr := hM.wf.rk (p := p) (by omega)
  unfold headN at h
  refine Call_of (m := mM_head) [some (.ref 57), some (.int (nI p)), some (.int (nI k))] rfl (fun G => Nat.le_of_ble_eq_true rfl) (fun G => rfl) ?_
  refine g_aload_n dX10_head_0 rfl ?_
  refine g_getr (j := 0) dX10_head_1 gc10 rfl (by decide) rfl (by decide) fl_M_9 ?_
  refine g_bipush (nI 11) dX10_head_4 kb_11 ?_
  refine g_iload_n dX10_head_6 rfl ?_
  first | refine g_iadd_n dX10_head_7 ?_ | refine g_iadd dX10_head_7 ?_
  refine g_iald_n dX10_head_8 (by first | rfl | assumption) (by first | decide | assumption) (by omega) (by omega) ?_
  try simp (disch := omega) only [hM.rk]
  refine g_iconst (nI 3) dX10_head_9 ki_3 ?_
  refine g_icmp_ne_n 17 dX10_head_10 (by decide) (by omega) (by omega) (fun c10 => ?_) (fun c10 => ?_)
  · refine g_aload_n dX10_head_17 rfl ?_
    refine g_getr (j := 0) dX10_head_18 gc10 rfl (by decide) rfl (by decide) fl_M_9 ?_
    refine g_bipush (nI 11) dX10_head_21 kb_11 ?_
    refine g_iload_n dX10_head_23 rfl ?_
    first | refine g_iadd_n dX10_head_24 ?_ | refine g_iadd dX10_head_24 ?_
    refine g_iald_n dX10_head_25 (by first | rfl | assumption) (by first | decide | assumption) (by omega) (by omega) ?_
    try simp (disch := omega) only [hM.rk]
    refine g_iconst (nI 2) dX10_head_26 ki_2 ?_
    refine g_icmp_ne_n 39 dX10_head_27 (by decide) (by omega) (by omega) (fun c27 => ?_) (fun c27 => ?_)
    · refine g_iconst (nI 0) dX10_head_39 ki_0 ?_
      refine g_ireturn dX10_head_40 rfl (by first | rfl | exact nar_bI _) ?_
      rw [if_neg c10, if_neg (by omega)] at h; exact h
    · refine g_iload_n dX10_head_30 rfl ?_
      refine g_iconst (nI 2) dX10_head_31 ki_2 ?_
      refine g_icmp_ge_n 39 dX10_head_32 (by decide) (by omega) (by omega) (fun c32 => ?_) (fun c32 => ?_)
      · refine g_iconst (nI 0) dX10_head_39 ki_0 ?_
        refine g_ireturn dX10_head_40 rfl (by first | rfl | exact nar_bI _) ?_
        rw [if_neg c10, if_neg (by omega)] at h; exact h
      · refine g_iconst (nI 1) dX10_head_35 ki_1 ?_
        refine g_goto 40 dX10_head_36 (by decide) ?_
        refine g_ireturn dX10_head_40 rfl (by first | rfl | exact nar_bI _) ?_
        rw [if_neg c10, if_pos (by omega)] at h; exact h
  · refine g_iconst (nI 2) dX10_head_13 ki_2 ?_
    refine g_goto 40 dX10_head_14 (by decide) ?_
    refine g_ireturn dX10_head_40 rfl (by first | rfl | exact nar_bI _) ?_
    rw [if_pos c10] at h; exact h
theorem SM_heldIn {d : Nat} {M : Mm} {S : BS} {Q : Po} (hM : MK (M 58) S) {q k : Nat} (hq : q ≤ 8) (hk : k < 4) (h : Q M (some (.int (nI (heldN S q k))))) : Call (d + 2) mM_heldIn [.ref 57, .int (hv q), .int (nI k)] M Q := by
  have hw := hM.wf.nd
  refine Call_of (m := mM_heldIn) [some (.ref 57), some (.int (hv q)), some (.int (nI k)), none, none] rfl (fun G => Nat.le_of_ble_eq_true rfl) (fun G => rfl) ?_
  refine g_iconst (nI 0) dX10_heldIn_0 ki_0 ?_
  refine g_ist5_3 dX10_heldIn_1 (by decide) rfl ?_
  refine g_iconst (nI 0) dX10_heldIn_2 ki_0 ?_
  refine g_ist5_4 dX10_heldIn_3 (by decide) rfl ?_
  refine loop_up (P := fun i => Go mM_heldIn (d + 2) Q 5 [some (.ref 57), some (.int (hv q)), some (.int (nI k)), some (.int (nI (cnt (fun e => S 11 e 0 == k && S 12 e 0 == q) i))), some (.int (nI i))] [] M) (S 1 0 0) ?_ 0 (Nat.zero_le _)
  intro i hi ih
  refine g_iload dX10_heldIn_5 rfl ?_
  refine g_aload_n dX10_heldIn_7 rfl ?_
  refine g_getr (j := 0) dX10_heldIn_8 gc10 rfl (by decide) rfl (by decide) fl_M_9 ?_
  refine g_iconst (nI 2) dX10_heldIn_11 ki_2 ?_
  refine g_iald_n dX10_heldIn_12 (by first | rfl | assumption) (by first | decide | assumption) (by omega) (by omega) ?_
  try simp (disch := omega) only [hM.nd, hM.kd]
  refine g_icmp_ge_n 55 dX10_heldIn_13 (by decide) (by omega) (by omega) (fun c13 => ?_) (fun c13 => ?_)
  · refine g_iload_n dX10_heldIn_55 rfl ?_
    refine g_ireturn dX10_heldIn_56 rfl (by first | rfl | exact nar_bI _) ?_
    rw [show i = S 1 0 0 by omega]; exact h
  · have hdk := hM.wf.dk (d := i) (by omega)
    have ih2 := ih (by omega)
    refine g_iload_n dX10_heldIn_16 rfl ?_
    refine g_aload_n dX10_heldIn_17 rfl ?_
    refine g_iload dX10_heldIn_18 rfl ?_
    refine g_call1 dX10_heldIn_20 clM_holder ml_M_78 gc10 rfl rfl (by decide) (Nat.le_of_ble_eq_true rfl) ?_
    refine SM_holder hM (by omega) ?_
    refine g_iload_n dX10_heldIn_23 rfl ?_
    refine g_icmp_ne 46 dX10_heldIn_24 (by decide) (fun c24 => ?_) (fun c24 => ?_)
    · rw [hv_inj hdk.2.2 hq] at c24
      refine g_iconst (nI 0) dX10_heldIn_46 ki_0 ?_
      first | refine g_iadd_n dX10_heldIn_47 ?_ | refine g_iadd dX10_heldIn_47 ?_
      refine g_ist5_3 dX10_heldIn_48 (by decide) rfl ?_
      first | refine g_incn5_4 dX10_heldIn_49 ki_1 (by decide) rfl ?_ | refine g_incg5_4 (nI 1) dX10_heldIn_49 ki_1 (by decide) rfl ?_
      refine g_goto 5 dX10_heldIn_52 (by decide) ?_
      rw [cnt_f (by simp [c24])] at ih2; exact ih2
    · rw [hv_inj hdk.2.2 hq] at c24
      refine g_aload_n dX10_heldIn_27 rfl ?_
      refine g_getr (j := 0) dX10_heldIn_28 gc10 rfl (by decide) rfl (by decide) fl_M_9 ?_
      refine g_sipush (nI 275) dX10_heldIn_31 ks_275 ?_
      refine g_iload dX10_heldIn_34 rfl ?_
      first | refine g_iadd_n dX10_heldIn_36 ?_ | refine g_iadd dX10_heldIn_36 ?_
      refine g_iald_n dX10_heldIn_37 (by first | rfl | assumption) (by first | decide | assumption) (by omega) (by omega) ?_
      try simp (disch := omega) only [hM.nd, hM.kd]
      refine g_iload_n dX10_heldIn_38 rfl ?_
      refine g_icmp_ne_n 46 dX10_heldIn_39 (by decide) (by omega) (by omega) (fun c39 => ?_) (fun c39 => ?_)
      · refine g_iconst (nI 0) dX10_heldIn_46 ki_0 ?_
        first | refine g_iadd_n dX10_heldIn_47 ?_ | refine g_iadd dX10_heldIn_47 ?_
        refine g_ist5_3 dX10_heldIn_48 (by decide) rfl ?_
        first | refine g_incn5_4 dX10_heldIn_49 ki_1 (by decide) rfl ?_ | refine g_incg5_4 (nI 1) dX10_heldIn_49 ki_1 (by decide) rfl ?_
        refine g_goto 5 dX10_heldIn_52 (by decide) ?_
        rw [cnt_f (by simp [c39])] at ih2; exact ih2
      · refine g_iconst (nI 1) dX10_heldIn_42 ki_1 ?_
        refine g_goto 47 dX10_heldIn_43 (by decide) ?_
        first | refine g_iadd_n dX10_heldIn_47 ?_ | refine g_iadd dX10_heldIn_47 ?_
        refine g_ist5_3 dX10_heldIn_48 (by decide) rfl ?_
        first | refine g_incn5_4 dX10_heldIn_49 ki_1 (by decide) rfl ?_ | refine g_incg5_4 (nI 1) dX10_heldIn_49 ki_1 (by decide) rfl ?_
        refine g_goto 5 dX10_heldIn_52 (by decide) ?_
        rw [cnt_t (by simp [c24, c39])] at ih2; exact ih2
theorem SM_heldInP {d : Nat} {M : Mm} {S : BS} {Q : Po} (hM : MK (M 58) S) {p k : Nat} (hp : p < 8) (hk : k < 4) (h : Q M (some (.int (nI (heldN S p k))))) : Call (d + 2) mM_heldIn [.ref 57, .int (nI p), .int (nI k)] M Q := by
  rw [← hv_p hp]
  exact SM_heldIn hM (by omega) hk h
theorem SM_loadT {d : Nat} {M : Mm} {S : BS} {Q : Po} (hM : MK (M 58) S) {p k : Nat} (hp : p < S 0 0 0) (hk : k < 4) (h : Q M (some (.int (nI (S 5 p k + heldN S p k))))) : Call (d + 3) mM_load [.ref 57, .int (nI p), .int (nI k), .int (nI 1)] M Q := by
  have hw := hM.wf.np
  refine Call_of (m := mM_load) [some (.ref 57), some (.int (nI p)), some (.int (nI k)), some (.int (nI 1))] rfl (fun G => Nat.le_of_ble_eq_true rfl) (fun G => rfl) ?_
  refine g_aload_n dX10_load_0 rfl ?_
  refine g_iload_n dX10_load_1 rfl ?_
  refine g_iload_n dX10_load_2 rfl ?_
  refine g_call2 dX10_load_3 clM_past ml_M_82 gc10 rfl rfl (by decide) (Nat.le_of_ble_eq_true rfl) ?_
  refine SM_past hM hp hk ?_
  refine g_aload_n dX10_load_6 rfl ?_
  refine g_iload_n dX10_load_7 rfl ?_
  refine g_iload_n dX10_load_8 rfl ?_
  refine g_call2 dX10_load_9 clM_heldIn ml_M_86 gc10 rfl rfl (by decide) (Nat.le_of_ble_eq_true rfl) ?_
  refine SM_heldInP hM (by omega) hk ?_
  first | refine g_iadd_n dX10_load_12 ?_ | refine g_iadd dX10_load_12 ?_
  refine g_iload_n dX10_load_13 rfl ?_
  refine g_if_eq_n 21 dX10_load_14 (by decide) (by omega) (fun c14 => ?_) (fun c14 => ?_)
  · exact absurd c14 (by omega)
  · refine g_iconst (nI 0) dX10_load_17 ki_0 ?_
    refine g_goto 27 dX10_load_18 (by decide) ?_
    first | refine g_iadd_n dX10_load_27 ?_ | refine g_iadd dX10_load_27 ?_
    refine g_ireturn dX10_load_28 rfl (by first | rfl | exact nar_bI _) ?_
    exact h
theorem SM_loadOf {d : Nat} {M : Mm} {S : BS} {Q : Po} (hM : MK (M 58) S) {p k : Nat} (hp : p < S 0 0 0) (hk : k < 4) (h : Q M (some (.int (nI (loadN S p k))))) : Call (d + 4) mM_loadOf [.ref 57, .int (nI p), .int (nI k)] M Q := by
  have hw := hM.wf.np
  refine Call_of (m := mM_loadOf) [some (.ref 57), some (.int (nI p)), some (.int (nI k))] rfl (fun G => Nat.le_of_ble_eq_true rfl) (fun G => rfl) ?_
  refine g_aload_n dX10_loadOf_0 rfl ?_
  refine g_iload_n dX10_loadOf_1 rfl ?_
  refine g_iload_n dX10_loadOf_2 rfl ?_
  refine g_iconst (nI 0) dX10_loadOf_3 ki_0 ?_
  refine g_call3 dX10_loadOf_4 clM_load ml_M_92 gc10 rfl rfl (by decide) (Nat.le_of_ble_eq_true rfl) ?_
  have hA : ∀ Q : Po, Q M (some (.int (nI (loadN S p k)))) → Call (d + 3) mM_load [.ref 57, .int (nI p), .int (nI k), .int (nI 0)] M Q := by
    intro Q h
    refine Call_of (m := mM_load) [some (.ref 57), some (.int (nI p)), some (.int (nI k)), some (.int (nI 0))] rfl (fun G => Nat.le_of_ble_eq_true rfl) (fun G => rfl) ?_
    refine g_aload_n dX10_load_0 rfl ?_
    refine g_iload_n dX10_load_1 rfl ?_
    refine g_iload_n dX10_load_2 rfl ?_
    refine g_call2 dX10_load_3 clM_past ml_M_82 gc10 rfl rfl (by decide) (Nat.le_of_ble_eq_true rfl) ?_
    refine SM_past hM hp hk ?_
    refine g_aload_n dX10_load_6 rfl ?_
    refine g_iload_n dX10_load_7 rfl ?_
    refine g_iload_n dX10_load_8 rfl ?_
    refine g_call2 dX10_load_9 clM_heldIn ml_M_86 gc10 rfl rfl (by decide) (Nat.le_of_ble_eq_true rfl) ?_
    refine SM_heldInP hM (by omega) hk ?_
    first | refine g_iadd_n dX10_load_12 ?_ | refine g_iadd dX10_load_12 ?_
    refine g_iload_n dX10_load_13 rfl ?_
    refine g_if_eq_n 21 dX10_load_14 (by decide) (by omega) (fun c14 => ?_) (fun c14 => ?_)
    · refine g_aload_n dX10_load_21 rfl ?_
      refine g_iload_n dX10_load_22 rfl ?_
      refine g_iload_n dX10_load_23 rfl ?_
      refine g_call2 dX10_load_24 clM_head ml_M_89 gc10 rfl rfl (by decide) (Nat.le_of_ble_eq_true rfl) ?_
      refine SM_head hM hp hk ?_
      first | refine g_iadd_n dX10_load_27 ?_ | refine g_iadd dX10_load_27 ?_
      refine g_ireturn dX10_load_28 rfl (by first | rfl | exact nar_bI _) ?_
      rw [show S 5 p k + heldN S p k + headN S p k = loadN S p k by unfold loadN loadF heldN; omega]
      exact h
    · exact absurd rfl c14
  refine hA _ ?_
  refine g_ireturn dX10_loadOf_7 rfl (by first | rfl | exact nar_bI _) ?_
  exact h
theorem SM_burden {d : Nat} {M : Mm} {S : BS} {Q : Po} (hM : MK (M 58) S) (hC : MC M) {p : Nat} (hp : p < S 0 0 0) (h : Q M (some (.int (nI (burN S p))))) : Call (d + 4) mM_burden [.ref 57, .int (nI p)] M Q := by
  have hw := hM.wf.np
  refine Call_of (m := mM_burden) [some (.ref 57), some (.int (nI p)), none, none] rfl (fun G => Nat.le_of_ble_eq_true rfl) (fun G => rfl) ?_
  refine g_iconst (nI 0) dX10_burden_0 ki_0 ?_
  refine g_ist4_2 dX10_burden_1 (by decide) rfl ?_
  refine g_iconst (nI 0) dX10_burden_2 ki_0 ?_
  refine g_ist4_3 dX10_burden_3 (by decide) rfl ?_
  refine loop_up (P := fun i => Go mM_burden (d + 4) Q 4 [some (.ref 57), some (.int (nI p)), some (.int (nI (sumN (fun k => bw k * (S 5 p k + heldN S p k)) i))), some (.int (nI i))] [] M) 4 ?_ 0 (Nat.zero_le _)
  intro i hi ih
  refine g_iload_n dX10_burden_4 rfl ?_
  refine g_iconst (nI 4) dX10_burden_5 ki_4 ?_
  refine g_icmp_ge_n 32 dX10_burden_6 (by decide) (by omega) (by omega) (fun c6 => ?_) (fun c6 => ?_)
  · refine g_iload_n dX10_burden_32 rfl ?_
    refine g_ireturn dX10_burden_33 rfl (by first | rfl | exact nar_bI _) ?_
    rw [show i = 4 by omega]; exact h
  · skip
    refine g_iload_n dX10_burden_9 rfl ?_
    refine g_aload_n dX10_burden_10 rfl ?_
    refine g_getr (j := 4) dX10_burden_11 gc10 rfl (by decide) rfl (by decide) fl_M_19 ?_
    refine g_iload_n dX10_burden_14 rfl ?_
    refine g_iald_n dX10_burden_15 (by first | rfl | assumption) (by first | decide | assumption) (by omega) (by omega) ?_
    try simp (disch := omega) only [hC.bw]
    refine g_aload_n dX10_burden_16 rfl ?_
    refine g_iload_n dX10_burden_17 rfl ?_
    refine g_iload_n dX10_burden_18 rfl ?_
    refine g_iconst (nI 1) dX10_burden_19 ki_1 ?_
    refine g_call3 dX10_burden_20 clM_load ml_M_92 gc10 rfl rfl (by decide) (Nat.le_of_ble_eq_true rfl) ?_
    refine SM_loadT hM hp (by omega) ?_
    first | refine g_imul_n dX10_burden_23 ?_ | refine g_imul dX10_burden_23 ?_
    first | refine g_iadd_n dX10_burden_24 ?_ | refine g_iadd dX10_burden_24 ?_
    refine g_ist4_2 dX10_burden_25 (by decide) rfl ?_
    first | refine g_incn4_3 dX10_burden_26 ki_1 (by decide) rfl ?_ | refine g_incg4_3 (nI 1) dX10_burden_26 ki_1 (by decide) rfl ?_
    refine g_goto 4 dX10_burden_29 (by decide) ?_
    exact ih (by omega)
theorem SM_hereMany {d : Nat} {M : Mm} {S : BS} {Q : Po} (hM : MK (M 58) S) (h : Q M (some (.int (nI (cnt (hr S) (S 0 0 0)))))) : Call (d + 1) mM_hereMany [.ref 57] M Q := by
  have hw := hM.wf.np
  refine Call_of (m := mM_hereMany) [some (.ref 57), none, none] rfl (fun G => Nat.le_of_ble_eq_true rfl) (fun G => rfl) ?_
  refine g_iconst (nI 0) dX10_hereMany_0 ki_0 ?_
  refine g_ist3_1 dX10_hereMany_1 (by decide) rfl ?_
  refine g_iconst (nI 0) dX10_hereMany_2 ki_0 ?_
  refine g_ist3_2 dX10_hereMany_3 (by decide) rfl ?_
  refine loop_up (P := fun i => Go mM_hereMany (d + 1) Q 4 [some (.ref 57), some (.int (nI (cnt (hr S) i))), some (.int (nI i))] [] M) (S 0 0 0) ?_ 0 (Nat.zero_le _)
  intro i hi ih
  refine g_iload_n dX10_hereMany_4 rfl ?_
  refine g_aload_n dX10_hereMany_5 rfl ?_
  refine g_getr (j := 0) dX10_hereMany_6 gc10 rfl (by decide) rfl (by decide) fl_M_9 ?_
  refine g_iconst (nI 0) dX10_hereMany_9 ki_0 ?_
  refine g_iald_n dX10_hereMany_10 (by first | rfl | assumption) (by first | decide | assumption) (by omega) (by omega) ?_
  try simp (disch := omega) only [hM.np, hM.hN]
  refine g_icmp_ge_n 31 dX10_hereMany_11 (by decide) (by omega) (by omega) (fun c11 => ?_) (fun c11 => ?_)
  · refine g_iload_n dX10_hereMany_31 rfl ?_
    refine g_ireturn dX10_hereMany_32 rfl (by first | rfl | exact nar_bI _) ?_
    rw [show i = S 0 0 0 by omega]; exact h
  · have ih2 := ih (by omega)
    have h1 := hM.wf.hN (p := i) (by omega)
    refine g_iload_n dX10_hereMany_14 rfl ?_
    refine g_aload_n dX10_hereMany_15 rfl ?_
    refine g_getr (j := 0) dX10_hereMany_16 gc10 rfl (by decide) rfl (by decide) fl_M_9 ?_
    refine g_iconst (nI 3) dX10_hereMany_19 ki_3 ?_
    refine g_iload_n dX10_hereMany_20 rfl ?_
    first | refine g_iadd_n dX10_hereMany_21 ?_ | refine g_iadd dX10_hereMany_21 ?_
    refine g_iald_n dX10_hereMany_22 (by first | rfl | assumption) (by first | decide | assumption) (by omega) (by omega) ?_
    try simp (disch := omega) only [hM.np, hM.hN]
    first | refine g_iadd_n dX10_hereMany_23 ?_ | refine g_iadd dX10_hereMany_23 ?_
    refine g_ist3_1 dX10_hereMany_24 (by decide) rfl ?_
    first | refine g_incn3_2 dX10_hereMany_25 ki_1 (by decide) rfl ?_ | refine g_incg3_2 (nI 1) dX10_hereMany_25 ki_1 (by decide) rfl ?_
    refine g_goto 4 dX10_hereMany_28 (by decide) ?_
    rw [cnt] at ih2
    rcases (show S 4 i 0 = 0 ∨ S 4 i 0 = 1 by omega) with q | q
    · rw [if_neg (by unfold hr; rw [q]; decide)] at ih2
      rw [q]; exact ih2
    · rw [if_pos (by unfold hr; rw [q]; rfl)] at ih2
      rw [q]; exact ih2
theorem SM_neutralOf {d : Nat} {M : Mm} {S : BS} {Q : Po} (hM : MK (M 58) S) {k : Nat} (hk : k < 4) (h : Q M (some (.int (nI (neuN S k))))) : Call (d + 4) mM_neutralOf [.ref 57, .int (nI k)] M Q := by
  have hw := hM.wf.np
  refine Call_of (m := mM_neutralOf) [some (.ref 57), some (.int (nI k)), none, none, none] rfl (fun G => Nat.le_of_ble_eq_true rfl) (fun G => rfl) ?_
  refine g_iconst (nI 0) dX10_neutralOf_0 ki_0 ?_
  refine g_ist5_2 dX10_neutralOf_1 (by decide) rfl ?_
  refine g_aload_n dX10_neutralOf_2 rfl ?_
  refine g_call0 dX10_neutralOf_3 clM_hereMany ml_M_96 gc10 rfl rfl (by decide) (Nat.le_of_ble_eq_true rfl) ?_
  refine SM_hereMany hM ?_
  refine g_ist5_3 dX10_neutralOf_6 (by decide) rfl ?_
  refine g_iconst (nI 0) dX10_neutralOf_7 ki_0 ?_
  refine g_ist5_4 dX10_neutralOf_8 (by decide) rfl ?_
  refine loop_up (P := fun i => Go mM_neutralOf (d + 4) Q 10 [some (.ref 57), some (.int (nI k)), some (.int (nI (pastSum S k i))), some (.int (nI (cnt (hr S) (S 0 0 0)))), some (.int (nI i))] [] M) (S 0 0 0) ?_ 0 (Nat.zero_le _)
  intro i hi ih
  refine g_iload dX10_neutralOf_10 rfl ?_
  refine g_aload_n dX10_neutralOf_12 rfl ?_
  refine g_getr (j := 0) dX10_neutralOf_13 gc10 rfl (by decide) rfl (by decide) fl_M_9 ?_
  refine g_iconst (nI 0) dX10_neutralOf_16 ki_0 ?_
  refine g_iald_n dX10_neutralOf_17 (by first | rfl | assumption) (by first | decide | assumption) (by omega) (by omega) ?_
  try simp (disch := omega) only [hM.np]
  refine g_icmp_ge_n 50 dX10_neutralOf_18 (by decide) (by omega) (by omega) (fun c18 => ?_) (fun c18 => ?_)
  · obtain rfl : i = S 0 0 0 := by omega
    have h1 := pastSum_le hM.wf hk (n := S 0 0 0) hw
    have h2 := cnt_le (hr S) (S 0 0 0)
    unfold neuN at h
    refine g_iload_n dX10_neutralOf_50 rfl ?_
    refine g_if_ne_n 58 dX10_neutralOf_51 (by decide) (by omega) (fun c51 => ?_) (fun c51 => ?_)
    · refine g_iload_n dX10_neutralOf_58 rfl ?_
      refine g_iload_n dX10_neutralOf_59 rfl ?_
      refine g_idiv_n dX10_neutralOf_60 (by omega) (by omega) (by omega) ?_
      refine g_ireturn dX10_neutralOf_61 rfl (by first | rfl | exact nar_bI _) ?_
      rw [if_neg c51] at h; exact h
    · refine g_iconst (nI 0) dX10_neutralOf_54 ki_0 ?_
      refine g_goto 61 dX10_neutralOf_55 (by decide) ?_
      refine g_ireturn dX10_neutralOf_61 rfl (by first | rfl | exact nar_bI _) ?_
      rw [if_pos c51] at h; exact h
  · have ih2 := ih (by omega)
    refine g_iload_n dX10_neutralOf_21 rfl ?_
    refine g_aload_n dX10_neutralOf_22 rfl ?_
    refine g_iload dX10_neutralOf_23 rfl ?_
    refine g_call1 dX10_neutralOf_25 clM_isHere ml_M_100 gc10 rfl rfl (by decide) (Nat.le_of_ble_eq_true rfl) ?_
    refine SM_isHere hM (by omega) ?_
    refine g_if_eq_b 41 dX10_neutralOf_28 (by decide) (fun c28 => ?_) (fun c28 => ?_)
    · refine g_iconst (nI 0) dX10_neutralOf_41 ki_0 ?_
      first | refine g_iadd_n dX10_neutralOf_42 ?_ | refine g_iadd dX10_neutralOf_42 ?_
      refine g_ist5_2 dX10_neutralOf_43 (by decide) rfl ?_
      first | refine g_incn5_4 dX10_neutralOf_44 ki_1 (by decide) rfl ?_ | refine g_incg5_4 (nI 1) dX10_neutralOf_44 ki_1 (by decide) rfl ?_
      refine g_goto 10 dX10_neutralOf_47 (by decide) ?_
      unfold pastSum at ih2 ⊢
      rw [sumN, if_neg (by rw [c28]; decide)] at ih2
      exact ih2
    · skip
      refine g_aload_n dX10_neutralOf_31 rfl ?_
      refine g_iload dX10_neutralOf_32 rfl ?_
      refine g_iload_n dX10_neutralOf_34 rfl ?_
      refine g_call2 dX10_neutralOf_35 clM_past ml_M_82 gc10 rfl rfl (by decide) (Nat.le_of_ble_eq_true rfl) ?_
      refine SM_past hM (by omega) hk ?_
      refine g_goto 42 dX10_neutralOf_38 (by decide) ?_
      first | refine g_iadd_n dX10_neutralOf_42 ?_ | refine g_iadd dX10_neutralOf_42 ?_
      refine g_ist5_2 dX10_neutralOf_43 (by decide) rfl ?_
      first | refine g_incn5_4 dX10_neutralOf_44 ki_1 (by decide) rfl ?_ | refine g_incg5_4 (nI 1) dX10_neutralOf_44 ki_1 (by decide) rfl ?_
      refine g_goto 10 dX10_neutralOf_47 (by decide) ?_
      unfold pastSum at ih2 ⊢
      rw [sumN, if_pos c28] at ih2
      exact ih2
theorem inJ_N {a b c : Nat} (ha : a < 2 ^ 31) (hb : b < 2 ^ 31) (hc : c < 2 ^ 31) : inJ (nI a).toInt64 (nI b).toInt64 (nI c).toInt64 = decide (b ≤ a ∧ a ≤ c) := by
  unfold inJ
  rw [Int32.toInt_toInt64, Int32.toInt_toInt64, Int32.toInt_toInt64, nI_toInt ha, nI_toInt hb, nI_toInt hc]
  congr 1
  exact propext ⟨fun q => by omega, fun q => by omega⟩
theorem SM_mayHold {d : Nat} {M : Mm} {S : BS} {Q : Po} (hM : MK (M 58) S) {p e : Nat} (hp : p < 2 ^ 31) (he : e < S 1 0 0) (h : Q M (some (.int (bI (mayB S p e))))) : Call (d + 4) mM_mayHold [.ref 57, .int (nI p), .int (nI e)] M Q := by
  have hw := hM.wf.np
  have hw2 := hM.wf.nd
  have hdk := hM.wf.dk (d := e) (by omega)
  refine Call_of (m := mM_mayHold) [some (.ref 57), some (.int (nI p)), some (.int (nI e)), none, none, none, none] rfl (fun G => Nat.le_of_ble_eq_true rfl) (fun G => rfl) ?_
  refine g_aload_n dX10_mayHold_0 rfl ?_
  refine g_iload_n dX10_mayHold_1 rfl ?_
  refine g_call1 dX10_mayHold_2 clM_isHere ml_M_100 gc10 rfl rfl (by decide) (Nat.le_of_ble_eq_true rfl) ?_
  refine SM_isHere hM hp ?_
  refine g_if_ne_b 10 dX10_mayHold_5 (by decide) (fun c5 => ?_) (fun c5 => ?_)
  rotate_left
  · skip
    refine g_iconst (nI 0) dX10_mayHold_8 ki_0 ?_
    refine g_ireturn dX10_mayHold_9 rfl (by first | rfl | exact nar_bI _) ?_
    exact qb_f h (by unfold mayB; rw [c5]; rfl)
  have hpn := hr_np hM.wf c5
  have hnr := hM.wf.nr (p := p) (by omega)
  refine g_aload_n dX10_mayHold_10 rfl ?_
  refine g_getr (j := 0) dX10_mayHold_11 gc10 rfl (by decide) rfl (by decide) fl_M_9 ?_
  refine g_sipush (nI 251) dX10_mayHold_14 ks_251 ?_
  refine g_iload_n dX10_mayHold_17 rfl ?_
  first | refine g_iadd_n dX10_mayHold_18 ?_ | refine g_iadd dX10_mayHold_18 ?_
  refine g_iald_n dX10_mayHold_19 (by first | rfl | assumption) (by first | decide | assumption) (by omega) (by omega) ?_
  try simp (disch := omega) only [hM.nr, hM.dy, hM.kd]
  refine g_ist7_3 dX10_mayHold_20 (by decide) rfl ?_
  refine g_iconst (nI 0) dX10_mayHold_21 ki_0 ?_
  refine g_ist7_4 dX10_mayHold_22 (by decide) rfl ?_
  refine loop_up (P := fun i => (∀ r, r < i → agB (S 7 p r) (S 8 p r) (S 9 p r) (S 10 e 0) (S 11 e 0) = false) → Go mM_mayHold (d + 4) Q 24 [some (.ref 57), some (.int (nI p)), some (.int (nI e)), some (.int (nI (S 10 e 0))), some (.int (nI i)), none, none] [] M) (S 6 p 0) ?_ 0 (Nat.zero_le _) (fun r hr => absurd hr (by omega))
  intro i hi ih hno
  refine g_iload dX10_mayHold_24 rfl ?_
  refine g_aload_n dX10_mayHold_26 rfl ?_
  refine g_getr (j := 0) dX10_mayHold_27 gc10 rfl (by decide) rfl (by decide) fl_M_9 ?_
  refine g_bipush (nI 51) dX10_mayHold_30 kb_51 ?_
  refine g_iload_n dX10_mayHold_32 rfl ?_
  first | refine g_iadd_n dX10_mayHold_33 ?_ | refine g_iadd dX10_mayHold_33 ?_
  refine g_iald_n dX10_mayHold_34 (by first | rfl | assumption) (by first | decide | assumption) (by omega) (by omega) ?_
  try simp (disch := omega) only [hM.nr, hM.dy, hM.kd]
  refine g_icmp_ge_n 174 dX10_mayHold_35 (by decide) (by omega) (by omega) (fun c35 => ?_) (fun c35 => ?_)
  · refine g_iconst (nI 1) dX10_mayHold_174 ki_1 ?_
    refine g_ireturn dX10_mayHold_175 rfl (by first | rfl | exact nar_bI _) ?_
    exact qb_t h (by unfold mayB; rw [c5, Bool.true_and]; exact decide_eq_true (fun r hr => hno r (by omega)))
  · have hi2 : i < S 6 p 0 := by omega
    obtain ⟨w1, w2, w3, w4⟩ := hM.wf.rl (p := p) (r := i) (by omega) (by omega)
    have e7 := hM.rs hpn hi2
    have e8 := hM.ra hpn hi2
    have e9 := hM.rb hpn hi2
    have hend : ∀ (b : Bool), b = agB (S 7 p i) (S 8 p i) (S 9 p i) (S 10 e 0) (S 11 e 0) → Go mM_mayHold (d + 4) Q 159 [some (.ref 57), some (.int (nI p)), some (.int (nI e)), some (.int (nI (S 10 e 0))), some (.int (nI i)), some (.int (nI (59 + 24 * p + 3 * i))), none] [.int (bI b)] M := by
      intro b hb
      refine g_ist7_6 dX10_mayHold_159 (by decide) rfl ?_
      refine g_iload dX10_mayHold_161 rfl ?_
      refine g_if_eq_b 168 dX10_mayHold_163 (by decide) (fun c163 => ?_) (fun c163 => ?_)
      · first | refine g_incn7_4 dX10_mayHold_168 ki_1 (by decide) rfl ?_ | refine g_incg7_4 (nI 1) dX10_mayHold_168 ki_1 (by decide) rfl ?_
        refine g_goto 24 dX10_mayHold_171 (by decide) ?_
        refine Go_sub [some (.ref 57), some (.int (nI p)), some (.int (nI e)), some (.int (nI (S 10 e 0))), some (.int (nI (i + 1))), none, none] (by simp [subL]) (ih (by omega) (fun r hr => ?_))
        rcases Nat.lt_or_ge r i with q | q
        · exact hno r q
        · rw [show r = i by omega, ← hb]; exact c163
      · refine g_iconst (nI 0) dX10_mayHold_166 ki_0 ?_
        refine g_ireturn dX10_mayHold_167 rfl (by first | rfl | exact nar_bI _) ?_
        exact qb_f h (by
          unfold mayB
          rw [c5, Bool.true_and]
          refine decide_eq_false (fun hall => ?_)
          have := hall i (by omega)
          rw [← hb, c163] at this
          cases this)
    refine g_bipush (nI 59) dX10_mayHold_38 kb_59 ?_
    refine g_bipush (nI 24) dX10_mayHold_40 kb_24 ?_
    refine g_iload_n dX10_mayHold_42 rfl ?_
    first | refine g_imul_n dX10_mayHold_43 ?_ | refine g_imul dX10_mayHold_43 ?_
    first | refine g_iadd_n dX10_mayHold_44 ?_ | refine g_iadd dX10_mayHold_44 ?_
    refine g_iconst (nI 3) dX10_mayHold_45 ki_3 ?_
    refine g_iload dX10_mayHold_46 rfl ?_
    first | refine g_imul_n dX10_mayHold_48 ?_ | refine g_imul dX10_mayHold_48 ?_
    first | refine g_iadd_n dX10_mayHold_49 ?_ | refine g_iadd dX10_mayHold_49 ?_
    refine g_ist7_5 dX10_mayHold_50 (by decide) rfl ?_
    refine g_aload_n dX10_mayHold_52 rfl ?_
    refine g_getr (j := 0) dX10_mayHold_53 gc10 rfl (by decide) rfl (by decide) fl_M_9 ?_
    refine g_iload dX10_mayHold_56 rfl ?_
    refine g_iald_n dX10_mayHold_58 (by first | rfl | assumption) (by first | decide | assumption) (by omega) (by omega) ?_
    try simp (disch := omega) only [hM.nr, hM.dy, hM.kd, e7, e8]
    refine g_if_ne_n 90 dX10_mayHold_59 (by decide) (by omega) (fun c59 => ?_) (fun c59 => ?_)
    · refine g_aload_n dX10_mayHold_90 rfl ?_
      refine g_getr (j := 0) dX10_mayHold_91 gc10 rfl (by decide) rfl (by decide) fl_M_9 ?_
      refine g_iload dX10_mayHold_94 rfl ?_
      refine g_iald_n dX10_mayHold_96 (by first | rfl | assumption) (by first | decide | assumption) (by omega) (by omega) ?_
      try simp (disch := omega) only [hM.nr, hM.dy, hM.kd, e7, e8]
      refine g_iconst (nI 1) dX10_mayHold_97 ki_1 ?_
      refine g_icmp_ne_n 131 dX10_mayHold_98 (by decide) (by omega) (by omega) (fun c98 => ?_) (fun c98 => ?_)
      · have e9' := e9 (by omega)
        have hm := Nat.mod_lt (S 10 e 0) (show 0 < S 8 p i by omega)
        refine g_iload_n dX10_mayHold_131 rfl ?_
        refine g_aload_n dX10_mayHold_132 rfl ?_
        refine g_getr (j := 0) dX10_mayHold_133 gc10 rfl (by decide) rfl (by decide) fl_M_9 ?_
        refine g_iload dX10_mayHold_136 rfl ?_
        refine g_iconst (nI 1) dX10_mayHold_138 ki_1 ?_
        first | refine g_iadd_n dX10_mayHold_139 ?_ | refine g_iadd dX10_mayHold_139 ?_
        refine g_iald_n dX10_mayHold_140 (by first | rfl | assumption) (by first | decide | assumption) (by omega) (by omega) ?_
        try simp (disch := omega) only [hM.nr, hM.dy, hM.kd, e7, e8, e9']
        refine g_irem_n dX10_mayHold_141 (by omega) (by omega) (by omega) ?_
        refine g_aload_n dX10_mayHold_142 rfl ?_
        refine g_getr (j := 0) dX10_mayHold_143 gc10 rfl (by decide) rfl (by decide) fl_M_9 ?_
        refine g_iload dX10_mayHold_146 rfl ?_
        refine g_iconst (nI 2) dX10_mayHold_148 ki_2 ?_
        first | refine g_iadd_n dX10_mayHold_149 ?_ | refine g_iadd dX10_mayHold_149 ?_
        refine g_iald_n dX10_mayHold_150 (by first | rfl | assumption) (by first | decide | assumption) (by omega) (by omega) ?_
        try simp (disch := omega) only [hM.nr, hM.dy, hM.kd, e7, e8, e9']
        refine g_icmp_eq_n 158 dX10_mayHold_151 (by decide) (by omega) (by omega) (fun c151 => ?_) (fun c151 => ?_)
        · refine g_iconst (nI 0) dX10_mayHold_158 ki_0 ?_
          refine hend false ?_
          unfold agB; rw [if_neg c59, if_neg c98]; simp [c151]
        · refine g_iconst (nI 1) dX10_mayHold_154 ki_1 ?_
          refine g_goto 159 dX10_mayHold_155 (by decide) ?_
          refine hend true ?_
          unfold agB; rw [if_neg c59, if_neg c98]; simp [c151]
      · skip
        refine g_aload_n dX10_mayHold_101 rfl ?_
        refine g_getr (j := 0) dX10_mayHold_102 gc10 rfl (by decide) rfl (by decide) fl_M_9 ?_
        refine g_sipush (nI 275) dX10_mayHold_105 ks_275 ?_
        refine g_iload_n dX10_mayHold_108 rfl ?_
        first | refine g_iadd_n dX10_mayHold_109 ?_ | refine g_iadd dX10_mayHold_109 ?_
        refine g_iald_n dX10_mayHold_110 (by first | rfl | assumption) (by first | decide | assumption) (by omega) (by omega) ?_
        try simp (disch := omega) only [hM.nr, hM.dy, hM.kd, e7, e8]
        refine g_aload_n dX10_mayHold_111 rfl ?_
        refine g_getr (j := 0) dX10_mayHold_112 gc10 rfl (by decide) rfl (by decide) fl_M_9 ?_
        refine g_iload dX10_mayHold_115 rfl ?_
        refine g_iconst (nI 1) dX10_mayHold_117 ki_1 ?_
        first | refine g_iadd_n dX10_mayHold_118 ?_ | refine g_iadd dX10_mayHold_118 ?_
        refine g_iald_n dX10_mayHold_119 (by first | rfl | assumption) (by first | decide | assumption) (by omega) (by omega) ?_
        try simp (disch := omega) only [hM.nr, hM.dy, hM.kd, e7, e8]
        refine g_icmp_ne_n 127 dX10_mayHold_120 (by decide) (by omega) (by omega) (fun c120 => ?_) (fun c120 => ?_)
        · refine g_iconst (nI 0) dX10_mayHold_127 ki_0 ?_
          refine g_goto 159 dX10_mayHold_128 (by decide) ?_
          refine hend false ?_
          unfold agB; rw [if_neg c59, if_pos c98]; simp [c120]
        · refine g_iconst (nI 1) dX10_mayHold_123 ki_1 ?_
          refine g_goto 159 dX10_mayHold_124 (by decide) ?_
          refine hend true ?_
          unfold agB; rw [if_neg c59, if_pos c98]; simp [c120]
    · have e9' := e9 (by omega)
      refine g_iload_n dX10_mayHold_62 rfl ?_
      refine g_i2l dX10_mayHold_63 ?_
      refine g_aload_n dX10_mayHold_64 rfl ?_
      refine g_getr (j := 0) dX10_mayHold_65 gc10 rfl (by decide) rfl (by decide) fl_M_9 ?_
      refine g_iload dX10_mayHold_68 rfl ?_
      refine g_iconst (nI 1) dX10_mayHold_70 ki_1 ?_
      first | refine g_iadd_n dX10_mayHold_71 ?_ | refine g_iadd dX10_mayHold_71 ?_
      refine g_iald_n dX10_mayHold_72 (by first | rfl | assumption) (by first | decide | assumption) (by omega) (by omega) ?_
      try simp (disch := omega) only [hM.nr, hM.dy, hM.kd, e7, e8, e9']
      refine g_i2l dX10_mayHold_73 ?_
      refine g_aload_n dX10_mayHold_74 rfl ?_
      refine g_getr (j := 0) dX10_mayHold_75 gc10 rfl (by decide) rfl (by decide) fl_M_9 ?_
      refine g_iload dX10_mayHold_78 rfl ?_
      refine g_iconst (nI 2) dX10_mayHold_80 ki_2 ?_
      first | refine g_iadd_n dX10_mayHold_81 ?_ | refine g_iadd dX10_mayHold_81 ?_
      refine g_iald_n dX10_mayHold_82 (by first | rfl | assumption) (by first | decide | assumption) (by omega) (by omega) ?_
      try simp (disch := omega) only [hM.nr, hM.dy, hM.kd, e7, e8, e9']
      refine g_i2l dX10_mayHold_83 ?_
      refine g_calls3 dX10_mayHold_84 clM_in ml_M_68 (Nat.le_of_ble_eq_true rfl) ?_
      refine SM_in _ _ _ ?_
      rw [inJ_N (by omega) (by omega) (by omega)]
      refine g_goto 159 dX10_mayHold_87 (by decide) ?_
      refine hend _ ?_
      unfold agB; rw [if_pos c59]
