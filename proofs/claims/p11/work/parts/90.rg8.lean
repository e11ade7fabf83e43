/-! RINGS in the class: findBest -/
theorem SG_findBest {d : Nat} {M : Mm} {S : BS} {Q : Po} (hB : BK M S) (hH : HM S) (h : ∀ M' m b g, EqO [35, 36, 37, 38, 39, 40] M M' → BM S M' (fun _ _ => True) m b g → Q M' (some (.int (bI (decide (0 < m)))))) : Call (d + 11) mG_findBest [.ref 35] M Q := by
  have hW := hB.wf
  have hw := hW.nd
  refine Call_of (m := mG_findBest) [some (.ref 35), none, none] rfl (fun G => Nat.le_of_ble_eq_true rfl) (fun G => rfl) ?_
  refine g_aload_n dX5_findBest_0 rfl ?_
  refine g_iconst (nI 0) dX5_findBest_1 ki_0 ?_
  refine g_puti (j := 8) dX5_findBest_2 gc5 rfl (by decide) rfl (by decide) fl_G_38 rfl (tyX5_ok 8 (by decide)) (by first | rfl | exact nar_bI _) rfl ?_
  refine g_aload_n dX5_findBest_5 rfl ?_
  refine g_iconst (nI 0) dX5_findBest_6 ki_0 ?_
  refine g_puti (j := 9) dX5_findBest_7 gc5 rfl (by decide) rfl (by decide) fl_G_41 rfl (tyX5_ok 9 (by decide)) (by first | rfl | exact nar_bI _) rfl ?_
  refine g_iconst (nI 0) dX5_findBest_10 ki_0 ?_
  refine g_ist3_1 dX5_findBest_11 (by decide) rfl ?_
  refine loop_up (P := fun k => ∀ M' m b g, EqO [35, 36, 37, 38, 39, 40] M M' → BM S M' (fun _ q => S 11 (q 0) 0 < k) m b g → Go mG_findBest (d + 11) Q 12 [some (.ref 35), some (.int (nI k)), none] [] M') 4 ?_ 0 (by omega) _ 0 (fun _ => 0) 0 ((EqO.set (by decide)).tr (EqO.set (by decide))) ⟨by rw [mset_off (by omega), mset_at], mset_at _ _ _ _, by omega, by omega, fun _ => rfl, fun z => absurd z (by omega), fun i hi => absurd hi (by omega), Or.inl ⟨rfl, fun s q z => absurd z (by omega)⟩⟩
  intro k hk ihk M' m b g hE hM
  have hB' : BK M' S := hB.eqO hE (by decide)
  refine g_iload_n dX5_findBest_12 rfl ?_
  refine g_iconst (nI 4) dX5_findBest_13 ki_4 ?_
  refine g_icmp_ge_n 78 dX5_findBest_14 (by decide) (by omega) (by omega) (fun c14 => ?_) (fun c14 => ?_)
  · have h8 := hM.1
    have hm4 := hM.2.2.1
    have hfin := h M' m b g hE (BM_keep hM (fun s q _ hq => Or.inl (by
      have h1 := hq.2.2.1 0 (by have := hq.1; omega)
      have := (hW.dk (d := q 0) (by omega)).2.1
      omega)) (fun _ _ => trivial))
    refine g_aload_n dX5_findBest_78 rfl ?_
    refine g_geti (j := 8) dX5_findBest_79 gc5 rfl (by decide) rfl (by decide) fl_G_38 ?_
    try simp (disch := omega) only [h8]
    refine g_if_le_n 89 dX5_findBest_82 (by decide) (by omega) (fun c82 => ?_) (fun c82 => ?_)
    · refine g_iconst (nI 0) dX5_findBest_89 ki_0 ?_
      refine g_ireturn dX5_findBest_90 rfl (by first | rfl | exact nar_bI _) ?_
      exact qb_f hfin (decide_eq_false (by omega))
    · refine g_iconst (nI 1) dX5_findBest_85 ki_1 ?_
      refine g_goto 90 dX5_findBest_86 (by decide) ?_
      refine g_ireturn dX5_findBest_90 rfl (by first | rfl | exact nar_bI _) ?_
      exact qb_t hfin (decide_eq_true (by omega))
  · refine g_aload_n dX5_findBest_17 rfl ?_
    refine g_iload_n dX5_findBest_18 rfl ?_
    refine g_call1 dX5_findBest_19 clG_noteHeld ml_G_44 gc5 rfl rfl (by decide) (Nat.le_of_ble_eq_true rfl) ?_
    refine SG_noteHeld hB' (by omega) (fun M1 hc hl hE1 h351 hp1 hm1 => ?_)
    have hB1 : BK M1 S := hB'.eqO hE1 (by decide)
    refine g_aload_n dX5_findBest_22 rfl ?_
    refine g_call0 dX5_findBest_23 clG_noteCosts ml_G_48 gc5 rfl rfl (by decide) (Nat.le_of_ble_eq_true rfl) ?_
    refine SG_noteCosts hB1 hH hp1 hm1 (fun M2 mc hE2 h352 hcs hmc h7 hown => ?_)
    have hR2 : RG S M2 k hc hl mc := ⟨hp1, ⟨by rw [h352 6 (by omega)]; exact hm1.1, fun i hi => by rw [hE2 36 (by decide), hE2 37 (by decide)]; exact hm1.2 i hi⟩, hcs, h7, hmc, hown⟩
    have hM2 : BM S M2 (fun _ q => S 11 (q 0) 0 < k) m b g := hM.off (fun j hj => by rw [h352 j (by omega), h351 j (by omega)]) (by rw [hE2 40 (by decide), hE1 40 (by decide)])
    have hc24 := hp1.1
    refine g_iconst (nI 0) dX5_findBest_26 ki_0 ?_
    refine g_ist3_2 dX5_findBest_27 (by decide) rfl ?_
    refine loop_up (P := fun y => ∀ M3 m3 b3 g3, EqO [35, 36, 37, 38, 39, 40] M M3 → RG S M3 k hc hl mc → BM S M3 (fun s q => S 11 (q 0) 0 < k ∨ (S 11 (q 0) 0 = k ∧ ∃ z, z < y ∧ q 0 = hl z)) m3 b3 g3 → Go mG_findBest (d + 11) Q 28 [some (.ref 35), some (.int (nI k)), some (.int (nI y))] [] M3) hc ?_ 0 (Nat.zero_le _) M2 m b g (hE.tr ((hE1.sub (by decide)).tr (hE2.sub (by decide)))) hR2 (BM_keep hM2 (fun s q hs _ => Or.inl (by
      rcases hs with hs | ⟨_, z, hz, _⟩
      · exact hs
      · omega)) (fun _ h2 => Or.inl h2))
    intro y hy ihy M3 m3 b3 g3 hE3 hR3 hM3
    have h6 := hR3.2.1.1
    refine g_iload_n dX5_findBest_28 rfl ?_
    refine g_aload_n dX5_findBest_29 rfl ?_
    refine g_geti (j := 6) dX5_findBest_30 gc5 rfl (by decide) rfl (by decide) fl_G_31 ?_
    try simp (disch := omega) only [h6]
    refine g_icmp_ge_n 72 dX5_findBest_33 (by decide) (by omega) (by omega) (fun c33 => ?_) (fun c33 => ?_)
    · skip
      first | refine g_incn3_1 dX5_findBest_72 ki_1 (by decide) rfl ?_ | refine g_incg3_1 (nI 1) dX5_findBest_72 ki_1 (by decide) rfl ?_
      refine g_goto 12 dX5_findBest_75 (by decide) ?_
      refine Go_sub [some (.ref 35), some (.int (nI (k + 1))), none] (by simp [subL]) (ihk (by omega) M3 m3 b3 g3 hE3 (BM_keep hM3 (fun s q hs hq => Or.inl ?_) (fun _ h2 => ?_)))
      · by_cases e : S 11 (q 0) 0 < k
        · exact Or.inl e
        · have ek : S 11 (q 0) 0 = k := by omega
          obtain ⟨z, hz, e1⟩ := hp1.find hq.2.2.1 (i := 0) (by have := hq.1; omega) ek
          exact Or.inr ⟨ek, z, by omega, e1⟩
      · rcases h2 with h2 | ⟨h2, _⟩ <;> omega
    · have hyc : y < hc := by omega
      have hly := hp1.2.1 y hyc
      have h37 : M3 37 y = bitR S (hl y) := (hR3.2.1.2 y hyc).2
      have hmyy := hH (hl y) (by omega) hly.2.2
      have hOb := dlv_le hW (q := S 12 (hl y) 0) (d := hl y) (by omega)
      have hR4 : RG S (mset M3 39 0 (nI y)) k hc hl mc := hR3.off (fun j _ => mset_off (by omega)) (fun i hi => mset_ne (by omega))
      have h374 : mset M3 39 0 (nI y) 37 y = bitR S (hl y) := by rw [mset_ne (by decide)]; exact h37
      refine g_iload_n dX5_findBest_36 rfl ?_
      refine g_bipush (nI 24) dX5_findBest_37 kb_24 ?_
      refine g_icmp_ge_n 72 dX5_findBest_39 (by decide) (by omega) (by omega) (fun c39 => ?_) (fun c39 => ?_)
      · exact absurd hw (by omega)
      · refine g_aload_n dX5_findBest_42 rfl ?_
        refine g_getr (j := 4) dX5_findBest_43 gc5 rfl (by decide) rfl (by decide) fl_G_21 ?_
        refine g_iconst (nI 0) dX5_findBest_46 ki_0 ?_
        refine g_iload_n dX5_findBest_47 rfl ?_
        refine g_iast_n dX5_findBest_48 (by first | rfl | assumption) (by first | decide | assumption) (by omega) (by omega) ?_
        refine g_aload_n dX5_findBest_49 rfl ?_
        refine g_iconst (nI 1) dX5_findBest_50 ki_1 ?_
        refine g_aload_n dX5_findBest_51 rfl ?_
        refine g_iload_n dX5_findBest_52 rfl ?_
        refine g_iload_n dX5_findBest_53 rfl ?_
        refine g_call2 dX5_findBest_54 clG_costOf ml_G_51 gc5 rfl rfl (by decide) (Nat.le_of_ble_eq_true rfl) ?_
        refine SG_costOf hR4 hw hyc hyc ?_
        rw [show cstR S (hl y) (hl y) = nI (dlv S (S 12 (hl y) 0) (hl y)) from if_pos hmyy]
        refine g_aload_n dX5_findBest_57 rfl ?_
        refine g_getr (j := 2) dX5_findBest_58 gc5 rfl (by decide) rfl (by decide) fl_G_15 ?_
        refine g_iload_n dX5_findBest_61 rfl ?_
        refine g_iald_n dX5_findBest_62 (by first | rfl | assumption) (by first | decide | assumption) (by omega) (by omega) ?_
        try simp (disch := omega) only [h374]
        refine g_call3 dX5_findBest_63 clG_grow ml_G_55 gc5 rfl rfl (by decide) (Nat.le_of_ble_eq_true rfl) ?_
        have hgr : GrS S k hc mc hl (d + 10) 1 := SG_grow (S := S) (k := k) (hc := hc) (mc := mc) (hl := hl) hW hH 3 1 rfl (Nat.le_refl 1) d
        have hpg : pgR S (fun _ => hl y) 1 = ((dlv S (S 12 (hl y) 0) (hl y) : Nat) : Int) := by
          simp [pgR, ownR, nxtR]
        have hv1 : (nI (dlv S (S 12 (hl y) 0) (hl y))).toInt = pgR S (fun _ => hl y) 1 := by
          rw [hpg]
          exact nI_toInt (n := dlv S (S 12 (hl y) 0) (hl y)) (by omega)
        have hb1 : -(10 * ((1 : Nat) : Int)) ≤ pgR S (fun _ => hl y) 1 ∧ pgR S (fun _ => hl y) 1 ≤ 10 * ((1 : Nat) : Int) := by
          rw [hpg]
          omega
        have hbt1 : BTr S (bitR S (hl y)) (fun _ => hl y) 1 := BTr.one (r := fun _ => hl y) hly.2.2
        refine hgr (mset M3 39 0 (nI y)) _ (fun _ => y) (fun _ => hl y) _ _ m3 b3 g3 rfl hR4 (BM_keep (hM3.off (fun j _ => mset_off (by omega)) (mset_ne (by decide))) (fun s q hs hq => Or.inl ?_) (fun h1 h2 => ?_)) (fun i hi => ?_) (fun i hi => ?_) hv1 hb1 hbt1 (fun M5 m5 b5 g5 hE5 h355 h395 hM5 => ?_)
        · rcases hs with hs | ⟨hs, ⟨j, h1, h2, h3, h4⟩ | ⟨h1, _⟩⟩
          · exact Or.inl hs
          · obtain rfl : j = 0 := by omega
            obtain ⟨z, hz, e1⟩ := hp1.find hq.2.2.1 (i := 0) h1 hs
            rw [e1, hp1.mono hz hyc] at h4
            exact Or.inr ⟨hs, z, h4, e1⟩
          · have := hq.1; omega
        · rcases h2 with h2 | ⟨h2, z, hz, e1⟩
          · exact Or.inl h2
          · refine Or.inr ⟨h2, Or.inl ⟨0, by have := h1.1; omega, by omega, fun i hi => absurd hi (by omega), ?_⟩⟩
            rw [e1]
            exact (hp1.mono (by omega) hyc).mpr hz
        · obtain rfl : i = 0 := by omega
          rw [mset_at]
          exact ⟨rfl, hyc⟩
        · obtain rfl : i = 0 := by omega
          exact ⟨hly.1, hly.2.2, rfl, fun z => absurd z (by omega), fun j hj => absurd hj (by omega)⟩
        · skip
          first | refine g_incn3_2 dX5_findBest_66 ki_1 (by decide) rfl ?_ | refine g_incg3_2 (nI 1) dX5_findBest_66 ki_1 (by decide) rfl ?_
          refine g_goto 28 dX5_findBest_69 (by decide) ?_
          refine ihy (by omega) M5 m5 b5 g5 (hE3.tr ((EqO.set (by decide)).tr (hE5.sub (by decide)))) (hR4.off (fun j hj => h355 j (by omega) (by omega)) (fun i hi => hE5 i (by simp; omega))) (BM_keep hM5 (fun s q hs hq => Or.inl ?_) (fun h1 h2 => ?_))
          · rcases hs with hs | ⟨hs, z, hz, e1⟩
            · exact Or.inl (Or.inl hs)
            · by_cases e : z = y
              · refine Or.inr ⟨hs, by have := hq.1; omega, fun i hi => ?_⟩
                obtain rfl : i = 0 := by omega
                rw [e1, e]
              · refine Or.inl (Or.inr ⟨hs, Or.inl ⟨0, by have := hq.1; omega, by omega, fun i hi => absurd hi (by omega), ?_⟩⟩)
                rw [e1]
                exact (hp1.mono (by omega) hyc).mpr (by omega)
          · rcases h2 with (h2 | ⟨h2, ⟨j, g1, g2, g3, g4⟩ | ⟨g1, _⟩⟩) | ⟨h2, _, h3⟩
            · exact Or.inl h2
            · obtain rfl : j = 0 := by omega
              obtain ⟨z, hz, e1⟩ := hp1.find h1.2.2.1 (i := 0) g1 h2
              rw [e1, hp1.mono hz hyc] at g4
              exact Or.inr ⟨h2, z, by omega, e1⟩
            · have := h1.1; omega
            · exact Or.inr ⟨h2, y, by omega, h3 0 (by omega)⟩
