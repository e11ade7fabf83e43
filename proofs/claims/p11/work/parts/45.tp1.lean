/-! feed, clear: the tape grows, is wiped -/
theorem OT.tape {M M' : Mm} {b : Bool} {S' : BS} {n n2 : Nat} {t t2 : Nat → Nat} {pn : Nat} {pf : Nat → Nat} (h : OT M b S' n t pn pf) (hn : n2 ≤ 150) (ht : ∀ i, i < n2 → 1 ≤ t2 i ∧ t2 i ≤ 127) (hk : ∀ k j, okO k j → k ≠ 41 → k ≠ 42 → ¬ (k = 57 ∧ j = 19) → k ≠ 69 → M' k j = M k j) (x1 : M' 41 1 = nI n2) (x2 : ∀ i, i < n2 → M' 42 i = nI (t2 i)) (x3 : M' 57 19 = nI n2) (x4 : ∀ i, i < n2 → M' 69 i = nI (t2 i)) : OT M' b S' n2 t2 pn pf := by
  unfold okO at hk
  obtain ⟨h1, h2, h3, h4, ⟨a1, a2, a3, a4, a5, a6⟩, ⟨b1, b2, b3, b4, b5, b6⟩, c1, c2, c3⟩ := h
  refine ⟨h1, hn, ht, h4, ⟨?_, fun hb => ?_, x1, x2, ?_, fun i hi => ?_⟩, ⟨?_, fun hb => ?_, x3, x4, ?_, fun i hi => ?_⟩, fun l hl => ?_, fun i hi => ?_, ⟨fun j hj => ?_, fun j hj => ?_⟩⟩
  · rw [hk 0 2 (by omega) (by omega) (by omega) (by omega) (by omega)]; exact a1
  · refine (a2 hb).keep (fun k j hr => ?_)
    have hk13 : 1 ≤ k ∧ k ≤ 13 := by unfold relB at hr; omega
    exact hk (k + 13) j (by omega) (by omega) (by omega) (by omega) (by omega)
  · rw [hk 52 1 (by omega) (by omega) (by omega) (by omega) (by omega)]; exact a5
  · rw [hk 53 i (by omega) (by omega) (by omega) (by omega) (by omega)]; exact a6 i hi
  · rw [hk 57 2 (by omega) (by omega) (by omega) (by omega) (by omega)]; exact b1
  · rw [show M' 59 = M 59 from funext (fun j => hk 59 j (by omega) (by omega) (by omega) (by omega) (by omega))]; exact b2 hb
  · rw [hk 57 31 (by omega) (by omega) (by omega) (by omega) (by omega)]; exact b5
  · rw [hk 74 i (by omega) (by omega) (by omega) (by omega) (by omega)]; exact b6 i hi
  · rw [hk 75 l (by omega) (by omega) (by omega) (by omega) (by omega), hk 56 l (by omega) (by omega) (by omega) (by omega) (by omega)]; exact c1 l hl
  · rw [hk 76 i (by omega) (by omega) (by omega) (by omega) (by omega), hk 55 i (by omega) (by omega) (by omega) (by omega) (by omega)]; exact c2 i hi
  · rw [hk 60 j (by omega) (by omega) (by omega) (by omega) (by omega)]; exact c3.1 j hj
  · rw [hk 61 j (by omega) (by omega) (by omega) (by omega) (by omega)]; exact c3.2 j hj
theorem BK.off {M M' : Mm} {S : BS} (h : BK M S) (hk : ∀ k, 1 ≤ k → k ≤ 13 → M' k = M k) : BK M' S := h.keep (fun k j hr => by rw [hk k (by unfold relB at hr; omega) (by unfold relB at hr; omega)])
theorem ST_wipe {d : Nat} {M : Mm} {Q : Po} (h : Q (mset M 41 1 (nI 0)) (some (.int (M 41 1)))) : Call (d + 1) mT_wipe [.ref 41] M Q := by
  refine Call_of (m := mT_wipe) [some (.ref 41), none] rfl (fun G => Nat.le_of_ble_eq_true rfl) (fun G => rfl) ?_
  refine g_aload_n dX7_wipe_0 rfl ?_
  refine g_geti (j := 1) dX7_wipe_1 gc7 rfl (by decide) rfl (by decide) fl_T_15 ?_
  refine g_ist2_1 dX7_wipe_4 (by decide) rfl ?_
  refine g_aload_n dX7_wipe_5 rfl ?_
  refine g_iconst (nI 0) dX7_wipe_6 ki_0 ?_
  refine g_puti (j := 1) dX7_wipe_7 gc7 rfl (by decide) rfl (by decide) fl_T_15 rfl (tyX7_ok 1 (by decide)) (by first | rfl | exact nar_bI _) rfl ?_
  refine g_iload_n dX7_wipe_10 rfl ?_
  refine g_ireturn dX7_wipe_11 rfl (by first | rfl | exact nar_bI _) ?_
  exact h
theorem both_clear : Both mF_clear mM_clear [] := by
  intro M ⟨S, b, S', n, t, pn, pf, h1, h2, h3, h4⟩
  have e1 : M 41 1 = nI n := h4.2.2.2.2.1.2.2.1
  have e2 : M 57 19 = nI n := h4.2.2.2.2.2.1.2.2.1
  refine Call_of (m := mF_clear) [some (.ref 0)] rfl (fun G => Nat.le_of_ble_eq_true rfl) (fun G => rfl) ?_
  refine g_aload_n dX9_clear_0 rfl ?_
  refine g_getr (j := 6) dX9_clear_1 gc9 rfl (by decide) rfl (by decide) fl_F_49 ?_
  refine g_call0 dX9_clear_4 clT_wipe ml_F_158 gc7 rfl rfl (by decide) (Nat.le_of_ble_eq_true rfl) ?_
  refine ST_wipe ?_
  refine g_ireturn dX9_clear_7 rfl (by first | rfl | exact nar_bI _) ?_
  rw [e1]
  refine ⟨IsI.rf, ?_⟩
  refine Call_of (m := mM_clear) [some (.ref 57), none] rfl (fun G => Nat.le_of_ble_eq_true rfl) (fun G => rfl) ?_
  refine g_aload_n dX10_clear_0 rfl ?_
  refine g_geti (j := 19) dX10_clear_1 gc10 rfl (by decide) rfl (by decide) fl_M_245 ?_
  try simp (disch := omega) only [mset_off, e2]
  refine g_ist2_1 dX10_clear_4 (by decide) rfl ?_
  refine g_aload_n dX10_clear_5 rfl ?_
  refine g_iconst (nI 0) dX10_clear_6 ki_0 ?_
  refine g_puti (j := 19) dX10_clear_7 gc10 rfl (by decide) rfl (by decide) fl_M_245 rfl (tyX10_ok 19 (by decide)) (by first | rfl | exact nar_bI _) rfl ?_
  refine g_iload_n dX10_clear_10 rfl ?_
  refine g_ireturn dX10_clear_11 rfl (by first | rfl | exact nar_bI _) ?_
  refine ⟨TyI.rf, S, b, S', 0, t, pn, pf, h1, h2.off (fun k k1 k2 => by rw [mset_ne (by omega), mset_ne (by omega)]), ?_, h4.tape (Nat.zero_le _) (fun i hi => absurd hi (by omega)) (fun k j hk n1 n2 n3 n4 => ?_) ?_ (fun i hi => absurd hi (by omega)) ?_ (fun i hi => absurd hi (by omega))⟩
  · rw [mset_ne (by decide), mset_ne (by decide)]; exact h3
  · rw [mset_off (by omega), mset_off (by omega)]
  · rw [mset_off (by omega), mset_at]
  · rw [mset_at]
