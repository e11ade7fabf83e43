/-! ROSTERS: pure, read in the class -/
def fhS (S : BS) (n : Nat) (t : Nat → Nat) : TS → TS
  | .inl a => if dgt (tb n t a) = true ∧ hr S (tb n t a - 48) = true then .inl (a + 1) else .inr a
  | .inr f => .inr f
def hoQ (S : BS) (n : Nat) (t : Nat → Nat) (e : Nat) (q : TS) : TS := mu n t 61 (mu n t (lw (S 11 e 0)) (nuS n t (S 10 e 0) (S 10 e 0) q))
def hoP (S : BS) (n : Nat) (t : Nat → Nat) (e : Nat) (q : TS) : TS × Nat := if tk n t 45 (hoQ S n t e q) = true then (tkS n t 45 (hoQ S n t e q), 8) else (fhS S n t (hoQ S n t e q), fgV n t (hoQ S n t e q))
def roP (S : BS) (n : Nat) (t : Nat → Nat) : Nat → TS × (Nat → Nat)
  | 0 => (.inl 0, fun _ => 8)
  | i + 1 => ((hoP S n t (sd S i) (if i = 0 then (roP S n t i).1 else mu n t 59 (roP S n t i).1)).1, fun d => if d = sd S i then (hoP S n t (sd S i) (if i = 0 then (roP S n t i).1 else mu n t 59 (roP S n t i).1)).2 else (roP S n t i).2 d)
theorem ok_fh {S : BS} {n : Nat} {t : Nat → Nat} {q : TS} (h : okB (fhS S n t q) = true) : okB q = true ∧ hr S (fgV n t q) = true := by
  cases q with
  | inl a =>
    simp only [fhS] at h
    split at h
    · rename_i z; exact ⟨rfl, z.2⟩
    · cases h
  | inr f => cases h
theorem hoP_ok {S : BS} {n : Nat} {t : Nat → Nat} {e : Nat} {q : TS} (h : okB (hoP S n t e q).1 = true) : okB q = true ∧ ((hoP S n t e q).2 = 8 ∨ hr S (hoP S n t e q).2 = true) := by
  have h2 : okB (hoQ S n t e q) = true → okB q = true := fun z => (ok_nu (ok_mu (ok_mu z))).1
  unfold hoP at h ⊢
  by_cases c : tk n t 45 (hoQ S n t e q) = true
  · rw [if_pos c] at h ⊢
    exact ⟨h2 (tk_ok c), Or.inl rfl⟩
  · rw [if_neg c] at h ⊢
    obtain ⟨h3, h4⟩ := ok_fh h
    exact ⟨h2 h3, Or.inr h4⟩
theorem roP_ok {S : BS} {n : Nat} {t : Nat → Nat} : ∀ {i : Nat}, okB (roP S n t i).1 = true → ∀ d, (roP S n t i).2 d = 8 ∨ hr S ((roP S n t i).2 d) = true
  | 0, _, d => Or.inl rfl
  | i + 1, h, d => by
    rw [roP] at h ⊢
    obtain ⟨h1, h2⟩ := hoP_ok h
    dsimp only
    split
    · exact h2
    · refine roP_ok ?_ d
      split at h1
      · exact h1
      · exact ok_mu h1
theorem roP_no {S : BS} {n : Nat} {t : Nat → Nat} {i : Nat} (h : okB (roP S n t i).1 = false) : ∀ k, (roP S n t (i + k)).1 = (roP S n t i).1
  | 0 => rfl
  | k + 1 => by
    rw [← Nat.add_assoc, roP]
    dsimp only
    rw [roP_no h k]
    generalize (roP S n t i).1 = q at h
    cases q with
    | inl a => cases h
    | inr f =>
      have e : (if i + k = 0 then (Sum.inr f : TS) else mu n t 59 (.inr f)) = .inr f := by split <;> rfl
      rw [e]
      rfl
theorem kv_eq {k j : Nat} (hk : k ≤ 4) (hj : j < 4) : kv k = nI j ↔ k = j := by
  unfold kv
  by_cases e : k = 4
  · rw [if_pos e]
    exact ⟨fun z => absurd z.symm (nI_m1 (by omega)), fun z => by omega⟩
  · rw [if_neg e]; exact nI_eq (by omega) (by omega)
theorem kdV_le (n : Nat) (t : Nat → Nat) (q : TS) : kdV n t q ≤ 4 := by
  cases q with
  | inl a => exact lwI_le _
  | inr f => exact Nat.le_refl 4
theorem SX_readHolder {d : Nat} {n : Nat} {t : Nat → Nat} {M : Mm} {S : BS} {Q : Po} {e : Nat} {q : TS} (hB : BK M S) (he : e < S 1 0 0) (hT : TC n t M q) (h : ∀ M', EqO [41, 49] M M' → TC n t M' (hoP S n t e q).1 → (∀ j, j ≠ e → M' 49 j = M 49 j) → (okB (hoP S n t e q).1 = true → M' 49 e = hv (hoP S n t e q).2) → Q M' none) : Call (d + 5) mX_readHolder [.ref 43, .int (nI e)] M Q := by
  have hw := hB.wf.nd
  have hdk := hB.wf.dk (d := e) (by omega)
  have hn := hT.1.1
  refine Call_of (m := mX_readHolder) [some (.ref 43), some (.int (nI e)), none, none] rfl (fun G => Nat.le_of_ble_eq_true rfl) (fun G => rfl) ?_
  refine g_aload_n dX8_readHolder_0 rfl ?_
  refine g_getr (j := 0) dX8_readHolder_1 gc8 rfl (by decide) rfl (by decide) fl_X_30 ?_
  refine g_iload_n dX8_readHolder_4 rfl ?_
  refine g_call1 dX8_readHolder_5 clB_isDuty ml_X_104 gc0 rfl rfl (by decide) (Nat.le_of_ble_eq_true rfl) ?_
  refine SB_isDutyT hB he ?_
  refine g_if_ne_tt 12 dX8_readHolder_8 (by decide) ?_
  refine g_aload_n dX8_readHolder_12 rfl ?_
  refine g_getr (j := 1) dX8_readHolder_13 gc8 rfl (by decide) rfl (by decide) fl_X_34 ?_
  refine g_aload_n dX8_readHolder_16 rfl ?_
  refine g_getr (j := 0) dX8_readHolder_17 gc8 rfl (by decide) rfl (by decide) fl_X_30 ?_
  refine g_iload_n dX8_readHolder_20 rfl ?_
  refine g_call1 dX8_readHolder_21 clB_dayOf ml_X_107 gc0 rfl rfl (by decide) (Nat.le_of_ble_eq_true rfl) ?_
  refine SB_dayOf hB he ?_
  refine g_aload_n dX8_readHolder_24 rfl ?_
  refine g_getr (j := 0) dX8_readHolder_25 gc8 rfl (by decide) rfl (by decide) fl_X_30 ?_
  refine g_iload_n dX8_readHolder_28 rfl ?_
  refine g_call1 dX8_readHolder_29 clB_dayOf ml_X_107 gc0 rfl rfl (by decide) (Nat.le_of_ble_eq_true rfl) ?_
  refine SB_dayOf hB he ?_
  refine g_call2 dX8_readHolder_32 clT_takeNumber ml_X_75 gc7 rfl rfl (by decide) (Nat.le_of_ble_eq_true rfl) ?_
  refine ST_takeNumber (lo := S 10 e 0) (hi := S 10 e 0) hT (fun _ => ⟨rfl, rfl⟩) (by omega) (by omega) (fun M1 v1 hE1 hT1 _ => ?_)
  generalize hq1 : nuS n t (S 10 e 0) (S 10 e 0) q = q1 at hT1
  obtain ⟨a1, ha1, e21, ea1⟩ := hT1.at
  refine g_pop dX8_readHolder_35 rfl ?_
  refine g_aload_n dX8_readHolder_36 rfl ?_
  refine g_getr (j := 1) dX8_readHolder_37 gc8 rfl (by decide) rfl (by decide) fl_X_34 ?_
  refine g_call0 dX8_readHolder_40 clT_at ml_X_64 gc7 rfl rfl (by decide) (Nat.le_of_ble_eq_true rfl) ?_
  refine ST_at ?_
  rw [e21]
  refine g_ist4_2 dX8_readHolder_43 (by decide) rfl ?_
  refine g_aload_n dX8_readHolder_44 rfl ?_
  refine g_getr (j := 1) dX8_readHolder_45 gc8 rfl (by decide) rfl (by decide) fl_X_34 ?_
  refine g_call0 dX8_readHolder_48 clT_takeKind ml_X_82 gc7 rfl rfl (by decide) (Nat.le_of_ble_eq_true rfl) ?_
  refine ST_takeKind hT1 (fun M2 hE2 hT2 => ?_)
  have hB2 : BK M2 S := hB.eqO ((hE1.sub (L' := [41]) (by decide)).tr hE2) (by decide)
  refine g_aload_n dX8_readHolder_51 rfl ?_
  refine g_getr (j := 0) dX8_readHolder_52 gc8 rfl (by decide) rfl (by decide) fl_X_30 ?_
  refine g_iload_n dX8_readHolder_55 rfl ?_
  refine g_call1 dX8_readHolder_56 clB_kindOf ml_X_110 gc0 rfl rfl (by decide) (Nat.le_of_ble_eq_true rfl) ?_
  refine SB_kindOf hB2 he ?_
  have hrest : ∀ M3, EqO [41] M M3 → TC n t M3 (mu n t (lw (S 11 e 0)) q1) → Go mX_readHolder (d + 5) Q 70 [some (.ref 43), some (.int (nI e)), some (.int (nI a1)), none] [] M3 := by
    intro M3 hE3 hT3
    have hQ : hoQ S n t e q = mu n t 61 (mu n t (lw (S 11 e 0)) q1) := by unfold hoQ; rw [hq1]
    refine g_aload_n dX8_readHolder_70 rfl ?_
    refine g_getr (j := 1) dX8_readHolder_71 gc8 rfl (by decide) rfl (by decide) fl_X_34 ?_
    refine g_bipush (nI 61) dX8_readHolder_74 kb_61 ?_
    refine g_call1 dX8_readHolder_76 clT_take ml_X_79 gc7 rfl rfl (by decide) (Nat.le_of_ble_eq_true rfl) ?_
    refine ST_take (c := 61) (by omega) hT3 (fun M4 hE4 hT4 => ?_)
    rw [← hQ] at hT4
    refine g_aload_n dX8_readHolder_79 rfl ?_
    refine g_getr (j := 7) dX8_readHolder_80 gc8 rfl (by decide) rfl (by decide) fl_X_27 ?_
    refine g_iload_n dX8_readHolder_83 rfl ?_
    refine g_iconst ((-1)) dX8_readHolder_84 ki_m1 ?_
    refine g_iast_n dX8_readHolder_85 (by first | rfl | assumption) (by first | decide | assumption) (by omega) (by omega) ?_
    refine g_aload_n dX8_readHolder_86 rfl ?_
    refine g_getr (j := 1) dX8_readHolder_87 gc8 rfl (by decide) rfl (by decide) fl_X_34 ?_
    refine g_bipush (nI 45) dX8_readHolder_90 kb_45 ?_
    refine g_call1 dX8_readHolder_92 clT_takesIf ml_X_71 gc7 rfl rfl (by decide) (Nat.le_of_ble_eq_true rfl) ?_
    refine ST_takesIf (c := 45) (by omega) (hT4.off (mset_ne (by decide)) (mset_ne (by decide))) (fun M5 hE5 hT5 => ?_)
    have hE6 : EqO [41, 49] M M5 := ((hE3.sub (by decide)).tr (hE4.sub (by decide))).tr ((EqO.set (by decide)).tr (hE5.sub (by decide)))
    have e49 : M5 49 = upd (M 49) e (-1) := by rw [hE5 49 (by decide), mset_same, hE4 49 (by decide), hE3 49 (by decide)]
    unfold hoP at h
    by_cases c : tk n t 45 (hoQ S n t e q) = true
    · rw [if_pos c] at h
      rw [c]
      refine g_if_eq_tt 99 dX8_readHolder_95 (by decide) ?_
      refine g_return dX8_readHolder_98 rfl ?_
      refine h M5 hE6 hT5 (fun j hj => by rw [e49, upd_off hj]) (fun _ => ?_)
      rw [e49, upd_at]
      rfl
    · rw [if_neg c] at h
      have c := Bool.eq_false_iff.mpr c
      rw [tkS_f c] at hT5
      rw [c]
      generalize hoQ S n t e q = q3 at h hT5
      obtain ⟨a3, ha3, e23, ea3⟩ := hT5.at
      refine g_if_eq_ff 99 dX8_readHolder_95 (by decide) ?_
      refine g_aload_n dX8_readHolder_99 rfl ?_
      refine g_getr (j := 1) dX8_readHolder_100 gc8 rfl (by decide) rfl (by decide) fl_X_34 ?_
      refine g_call0 dX8_readHolder_103 clT_at ml_X_64 gc7 rfl rfl (by decide) (Nat.le_of_ble_eq_true rfl) ?_
      refine ST_at ?_
      rw [e23]
      refine g_ist4_3 dX8_readHolder_106 (by decide) rfl ?_
      refine g_aload_n dX8_readHolder_107 rfl ?_
      refine g_getr (j := 7) dX8_readHolder_108 gc8 rfl (by decide) rfl (by decide) fl_X_27 ?_
      refine g_iload_n dX8_readHolder_111 rfl ?_
      refine g_aload_n dX8_readHolder_112 rfl ?_
      refine g_getr (j := 1) dX8_readHolder_113 gc8 rfl (by decide) rfl (by decide) fl_X_34 ?_
      refine g_call0 dX8_readHolder_116 clT_takeFigure ml_X_113 gc7 rfl rfl (by decide) (Nat.le_of_ble_eq_true rfl) ?_
      refine ST_takeFigure hT5 (fun M7 v hE7 hT7 hv hvok => ?_)
      have hB8 : BK (mset M7 49 e v) S := hB.eqO (hE6.tr ((hE7.sub (by decide)).tr (EqO.set (by decide)))) (by decide)
      have hE8 : EqO [41, 49] M (mset M7 49 e v) := hE6.tr ((hE7.sub (by decide)).tr (EqO.set (by decide)))
      have e498 : mset M7 49 e v 49 = upd (M 49) e v := by
        rw [mset_same, hE7 49 (by decide), e49]
        funext j
        by_cases z : j = e
        · subst z; rw [upd_at, upd_at]
        · rw [upd_off z, upd_off z, upd_off z]
      have hT8 : TC n t (mset M7 49 e v) (fgS n t q3) := hT7.off (mset_ne (by decide)) (mset_ne (by decide))
      have hfail : flS a3 (fgS n t q3) = fhS S n t q3 → Go mX_readHolder (d + 5) Q 136 [some (.ref 43), some (.int (nI e)), some (.int (nI a1)), some (.int (nI a3))] [] (mset M7 49 e v) := by
        intro hfl
        refine g_aload_n dX8_readHolder_136 rfl ?_
        refine g_getr (j := 1) dX8_readHolder_137 gc8 rfl (by decide) rfl (by decide) fl_X_34 ?_
        refine g_iload_n dX8_readHolder_140 rfl ?_
        refine g_call1 dX8_readHolder_141 clT_fail ml_X_68 gc7 rfl rfl (by decide) (Nat.le_of_ble_eq_true rfl) ?_
        refine ST_fail (p := a3) hT8 (fun b _ => ⟨rfl, ha3⟩) (fun M9 hE9 hT9 => ?_)
        rw [hfl] at hT9
        refine g_return dX8_readHolder_144 rfl ?_
        refine h M9 (hE8.tr (hE9.sub (by decide))) hT9 (fun j hj => by rw [hE9 49 (by decide), e498, upd_off hj]) (fun hok => ?_)
        exfalso
        dsimp only at hok
        rw [← hfl] at hok
        generalize fgS n t q3 = q4 at hok
        cases q4 with
        | inl b => cases hok
        | inr f => cases hok
      have ev : mset M7 49 e v 49 e = v := mset_at _ _ _ _
      refine g_iast_n dX8_readHolder_119 (by first | rfl | assumption) (by first | decide | assumption) (by omega) (by omega) ?_
      refine g_aload_n dX8_readHolder_120 rfl ?_
      refine g_getr (j := 0) dX8_readHolder_121 gc8 rfl (by decide) rfl (by decide) fl_X_30 ?_
      refine g_aload_n dX8_readHolder_124 rfl ?_
      refine g_getr (j := 7) dX8_readHolder_125 gc8 rfl (by decide) rfl (by decide) fl_X_27 ?_
      refine g_iload_n dX8_readHolder_128 rfl ?_
      refine g_iald_n dX8_readHolder_129 (by first | rfl | assumption) (by first | decide | assumption) (by omega) (by omega) ?_
      try simp (disch := omega) only [ev]
      refine g_call1 dX8_readHolder_130 clB_isHere ml_X_116 gc0 rfl rfl (by decide) (Nat.le_of_ble_eq_true rfl) ?_
      rcases hv with rfl | ⟨u, hu, rfl⟩
      · refine SB_isHereM ?_
        refine g_if_ne_ff 144 dX8_readHolder_133 (by decide) ?_
        refine hfail ?_
        cases q3 with
        | inl b =>
          simp only [fgS] at hvok
          simp only [fgS, fhS]
          by_cases z : dgt (tb n t b) = true
          · rw [if_pos z] at hvok
            exact absurd (hvok rfl).1.symm (nI_m1 (by have := (hvok rfl).2; omega))
          · rw [if_neg z, if_neg (fun y => z y.1)]; rfl
        | inr f => rfl
      · refine SB_isHere hB8 (by omega) ?_
        refine g_if_ne_b 144 dX8_readHolder_133 (by decide) (fun c133 => ?_) (fun c133 => ?_)
        · refine g_return dX8_readHolder_144 rfl ?_
          have hfg : fgS n t q3 = fhS S n t q3 ∧ (okB (fgS n t q3) = true → u = fgV n t q3) := by
            have hu2 : okB (fgS n t q3) = true → u = fgV n t q3 := fun z => by
              obtain ⟨z1, z2⟩ := hvok z
              exact (nI_eq (by omega) (by omega)).mp z1
            refine ⟨?_, hu2⟩
            cases q3 with
            | inl b =>
              simp only [fgS, fhS] at hu2 ⊢
              by_cases z : dgt (tb n t b) = true
              · rw [if_pos z] at hu2
                have hu3 : u = tb n t b - 48 := hu2 rfl
                rw [if_pos z, if_pos ⟨z, by rw [← hu3]; exact c133⟩]
              · rw [if_neg z, if_neg (fun y => z y.1)]
            | inr f => rfl
          refine h _ hE8 (by rw [← hfg.1]; exact hT8) (fun j hj => by rw [e498, upd_off hj]) (fun hok => ?_)
          dsimp only at hok
          rw [← hfg.1] at hok
          have hu3 := hfg.2 hok
          have h8 := hr_np hB.wf c133
          have hw8 := hB.wf.np
          rw [mset_at, ← hu3, hv_p (by omega)]
        · refine hfail ?_
          cases q3 with
          | inl b =>
            obtain rfl := ea3 b rfl
            simp only [fgS] at hvok
            simp only [fgS, fhS]
            by_cases z : dgt (tb n t b) = true
            · rw [if_pos z] at hvok
              obtain ⟨z1, z2⟩ := hvok rfl
              have z2 : tb n t b - 48 ≤ 9 := z2
              have hu3 : u = tb n t b - 48 := (nI_eq (by omega) (by omega)).mp z1
              rw [if_pos z, if_neg (fun y => by rw [← hu3, c133] at y; cases y.2)]
              rfl
            · rw [if_neg z, if_neg (fun y => z y.1)]; rfl
          | inr f => rfl
  refine g_icmp_eq 70 dX8_readHolder_59 (by decide) (fun c59 => ?_) (fun c59 => ?_)
  · rw [kv_eq (kdV_le n t q1) (by omega)] at c59
    refine hrest M2 (hE1.tr hE2) ?_
    rw [show mu n t (lw (S 11 e 0)) q1 = kdS n t q1 from ?_]
    · exact hT2
    · cases q1 with
      | inl b =>
        have hb4 : lwI (tb n t b) < 4 := by
          have : lwI (tb n t b) = S 11 e 0 := c59
          omega
        have hb : tb n t b = lw (S 11 e 0) := by rw [← lw_lwI hb4, show lwI (tb n t b) = S 11 e 0 from c59]
        simp only [mu, kdS]
        rw [if_pos hb, if_pos hb4]
      | inr f => rfl
  · rw [kv_eq (kdV_le n t q1) (by omega)] at c59
    refine g_aload_n dX8_readHolder_62 rfl ?_
    refine g_getr (j := 1) dX8_readHolder_63 gc8 rfl (by decide) rfl (by decide) fl_X_34 ?_
    refine g_iload_n dX8_readHolder_66 rfl ?_
    refine g_call1 dX8_readHolder_67 clT_fail ml_X_68 gc7 rfl rfl (by decide) (Nat.le_of_ble_eq_true rfl) ?_
    refine ST_fail (p := a1) hT2 (fun b _ => ⟨rfl, ha1⟩) (fun M3 hE3 hT3 => ?_)
    refine hrest M3 ((hE1.tr hE2).tr hE3) ?_
    rw [show mu n t (lw (S 11 e 0)) q1 = flS a1 (kdS n t q1) from ?_]
    · exact hT3
    · cases q1 with
      | inl b =>
        obtain rfl := ea1 b rfl
        have hb : ¬ tb n t b = lw (S 11 e 0) := fun z => c59 (by
          show lwI (tb n t b) = _
          rw [z, lwI_lw (by omega)])
        simp only [mu, kdS]
        rw [if_neg hb]
        split <;> rfl
      | inr f => rfl
