/-! RINGS in the class: grow -/
def GrS (S : BS) (k hc mc : Nat) (hl : Nat → Nat) (D n : Nat) : Prop := ∀ (M : Mm) (Q : Po) (x : Nat → Nat) (r : RW) (v hb : Int32) (m : Nat) (b : RW) (g : Nat), (r = fun i => hl (x i)) → RG S M k hc hl mc → BM S M (bef S k n r) m b g → (∀ i, i < n → M 39 i = nI (x i) ∧ x i < hc) → rowOK S r n → v.toInt = pgR S r n → (-(10 * (n : Int)) ≤ pgR S r n ∧ pgR S r n ≤ 10 * (n : Int)) → BTr S hb r n → (∀ M' m' b' g', EqO [35, 39, 40] M M' → (∀ j, j ≠ 8 → j ≠ 9 → M' 35 j = M 35 j) → (∀ i, i < n → M' 39 i = M 39 i) → BM S M' (fun s q => bef S k n r s q ∨ pfx S k n r s q) m' b' g' → Q M' none) → Call D mG_grow [.ref 35, .int (nI n), .int v, .int hb] M Q
theorem Pm_out0 {S : BS} {k hc n y s : Nat} {hl : Nat → Nat} {r q p : RW} (hp : HLp S k hc hl (S 1 0 0)) (hy : y < hc) (hpr : ∀ i, i < n → p i = r i) (hpn : p n = hl y) (hn : 0 < n) (hrk : S 11 (r 0) 0 = k) (h : Pm S k n r hl y s q) : bef S k (n + 1) p s q := by
  rcases h with (h | ⟨h1, h2⟩) | ⟨hk, h1, h2, z, h3, h4⟩
  · rcases h with h | ⟨hk, ⟨j, h1, h2, h3, h4⟩ | ⟨h1, h2⟩⟩
    · exact Or.inl h
    · exact Or.inr ⟨hk, Or.inl ⟨j, h1, by omega, fun i hi => (h3 i hi).trans (hpr i (by omega)).symm, by rw [hpr j h2]; exact h4⟩⟩
    · exact Or.inr ⟨hk, Or.inr ⟨by omega, fun i hi => (h2 i hi).trans (hpr i (by omega)).symm⟩⟩
  · exact Or.inr ⟨by rw [← h2 0 hn]; exact hrk, Or.inr ⟨by omega, fun i hi => by rw [← h2 i (by omega), hpr i (by omega)]⟩⟩
  · exact Or.inr ⟨hk, Or.inl ⟨n, h1, by omega, fun i hi => by rw [h2 i hi, hpr i hi], by rw [h4, hpn]; exact (hp.mono (by omega) hy).mpr h3⟩⟩
def GbS (S : BS) (k hc mc : Nat) (hl : Nat → Nat) (D n : Nat) : Prop := ∀ (M : Mm) (Q : Po) (x : Nat → Nat) (r : RW) (v hb : Int32) (m : Nat) (b : RW) (g : Nat), (r = fun i => hl (x i)) → RG S M k hc hl mc → BM S M (fun s q => bef S k n r s q ∨ sameR n r s q) m b g → (∀ i, i < n → M 39 i = nI (x i) ∧ x i < hc) → rowOK S r n → v.toInt = pgR S r n → (-(10 * (n : Int)) ≤ pgR S r n ∧ pgR S r n ≤ 10 * (n : Int)) → BTr S hb r n → (∀ M' m' b' g', EqO [35, 39, 40] M M' → (∀ j, j ≠ 8 → j ≠ 9 → M' 35 j = M 35 j) → (∀ i, i < n → M' 39 i = M 39 i) → BM S M' (fun s q => bef S k n r s q ∨ pfx S k n r s q) m' b' g' → Q M' none) → Call D mG_growByEach [.ref 35, .int (nI n), .int v, .int hb] M Q
theorem SG_growByEachS {d : Nat} {S : BS} {k hc mc n : Nat} {hl : Nat → Nat} (hW : WF S) (hH : HM S) (hn : 1 ≤ n ∧ n < 4) (ihg : GrS S k hc mc hl (d + 2) (n + 1)) : GbS S k hc mc hl (d + 3) n := by
  intro M Q x r v hb m b g hr hR hM hx hrow hv hpb hbt h
  have hw := hW.nd
  have hc24 := hR.1.1
  have hri : ∀ i, r i = hl (x i) := fun i => by rw [hr]
  have hx0 := hx 0 (by omega)
  have hx1 := hx (n - 1) (by omega)
  have hrk : S 11 (r 0) 0 = k := by rw [hri]; exact (hR.1.2.1 (x 0) hx0.2).2.1
  have hbm0 : BM S M (Pm S k n r hl (x 0 + 1)) m b g := by
    refine BM_keep hM (fun s q hs hq => ?_) (fun _ h2 => Or.inl h2)
    rcases hs with hs | ⟨hk, h1, h2, z, h3, h4⟩
    · exact Or.inl hs
    · exfalso
      have h5 := ((hq.2.2.1 n h1).2.2.2.1 (by omega)).1
      rw [h2 0 (by omega), hri, h4] at h5
      have hz : z < hc := by omega
      have := (hR.1.mono hx0.2 hz).mp h5
      omega
  have h390 := hx0.1
  refine Call_of (m := mG_growByEach) [some (.ref 35), some (.int (nI n)), some (.int v), some (.int hb), none, none, none] rfl (fun G => Nat.le_of_ble_eq_true rfl) (fun G => rfl) ?_
  refine g_iload_n dX5_growByEach_0 rfl ?_
  refine g_iconst (nI 1) dX5_growByEach_1 ki_1 ?_
  refine g_icmp_lt_n 10 dX5_growByEach_2 (by decide) (by omega) (by omega) (fun c2 => ?_) (fun c2 => ?_)
  · exact absurd hn.1 (by omega)
  · refine g_iload_n dX5_growByEach_5 rfl ?_
    refine g_iconst (nI 4) dX5_growByEach_6 ki_4 ?_
    refine g_icmp_lt_n 11 dX5_growByEach_7 (by decide) (by omega) (by omega) (fun c7 => ?_) (fun c7 => ?_)
    · refine g_aload_n dX5_growByEach_11 rfl ?_
      refine g_getr (j := 4) dX5_growByEach_12 gc5 rfl (by decide) rfl (by decide) fl_G_21 ?_
      refine g_iload_n dX5_growByEach_15 rfl ?_
      refine g_iconst (nI 1) dX5_growByEach_16 ki_1 ?_
      first | refine g_isub_n dX5_growByEach_17 (by omega) ?_ | refine g_isub dX5_growByEach_17 ?_
      refine g_iald_n dX5_growByEach_18 (by first | rfl | assumption) (by first | decide | assumption) (by omega) (by omega) ?_
      try simp (disch := omega) only [hx1.1, h390]
      refine g_ist7_4 dX5_growByEach_19 (by decide) rfl ?_
      refine g_aload_n dX5_growByEach_21 rfl ?_
      refine g_getr (j := 4) dX5_growByEach_22 gc5 rfl (by decide) rfl (by decide) fl_G_21 ?_
      refine g_iconst (nI 0) dX5_growByEach_25 ki_0 ?_
      refine g_iald_n dX5_growByEach_26 (by first | rfl | assumption) (by first | decide | assumption) (by omega) (by omega) ?_
      try simp (disch := omega) only [hx1.1, h390]
      refine g_iconst (nI 1) dX5_growByEach_27 ki_1 ?_
      first | refine g_iadd_n dX5_growByEach_28 ?_ | refine g_iadd dX5_growByEach_28 ?_
      refine g_ist7_5 dX5_growByEach_29 (by decide) rfl ?_
      refine loop_up (P := fun y => x 0 < y → ∀ M2 m2 b2 g2, EqO [35, 39, 40] M M2 → (∀ j, j ≠ 8 → j ≠ 9 → M2 35 j = M 35 j) → (∀ i, i < n → M2 39 i = M 39 i) → BM S M2 (Pm S k n r hl y) m2 b2 g2 → Go mG_growByEach (d + 3) Q 31 [some (.ref 35), some (.int (nI n)), some (.int v), some (.int hb), some (.int (nI (x (n - 1)))), some (.int (nI y)), none] [] M2) hc ?_ (x 0 + 1) hx0.2 (Nat.lt_succ_self _) M m b g EqO.rf (fun j _ _ => rfl) (fun i _ => rfl) hbm0
      intro y hy ihl hxy M2 m2 b2 g2 hE2 h352 h392 hM2
      have hR2 : RG S M2 k hc hl mc := hR.off (fun j hj => h352 j (by omega) (by omega)) (fun i hi => hE2 i (by simp; omega))
      have h6 : M2 35 6 = nI hc := hR2.2.1.1
      refine g_iload dX5_growByEach_31 rfl ?_
      refine g_aload_n dX5_growByEach_33 rfl ?_
      refine g_geti (j := 6) dX5_growByEach_34 gc5 rfl (by decide) rfl (by decide) fl_G_31 ?_
      try simp (disch := omega) only [h6]
      refine g_icmp_ge_n 121 dX5_growByEach_37 (by decide) (by omega) (by omega) (fun c37 => ?_) (fun c37 => ?_)
      · refine g_return dX5_growByEach_121 rfl ?_
        refine h M2 m2 b2 g2 hE2 h352 h392 (BM_keep hM2 (fun s q hs hq => ?_) (fun h1 h2 => ?_))
        · rcases hs with hs | ⟨hs1, hs2, hs3⟩
          · exact Or.inl (Or.inl (Or.inl hs))
          · by_cases e : s = n
            · exact Or.inl (Or.inl (Or.inr ⟨e.symm, fun i hi => (hs3 i hi).symm⟩))
            · obtain ⟨z, hz, e1⟩ := hR.1.find hq.2.2.1 (i := n) (by omega) hs1
              exact Or.inl (Or.inr ⟨hs1, by omega, hs3, z, by omega, e1⟩)
        · rcases h2 with (h2 | ⟨h2, h3⟩) | ⟨h2, h3, h4, _⟩
          · exact Or.inl h2
          · exact Or.inr ⟨by rw [← h3 0 (by omega)]; exact hrk, by omega, fun i hi => (h3 i hi).symm⟩
          · exact Or.inr ⟨h2, by omega, h4⟩
      · refine g_iload dX5_growByEach_40 rfl ?_
        refine g_bipush (nI 24) dX5_growByEach_42 kb_24 ?_
        refine g_icmp_ge_n 121 dX5_growByEach_44 (by decide) (by omega) (by omega) (fun c44 => ?_) (fun c44 => ?_)
        · exact absurd hw (by omega)
        · have hyc : y < hc := by omega
          have hly := hR.1.2.1 y hyc
          have h37 : M2 37 y = bitR S (hl y) := (hR2.2.1.2 y hyc).2
          have hskip : (∀ s q, ringOK S q s → n < s → (∀ i, i < n → q i = r i) → q n = hl y → False) → ∀ w, Go mG_growByEach (d + 3) Q 115 [some (.ref 35), some (.int (nI n)), some (.int v), some (.int hb), some (.int (nI (x (n - 1)))), some (.int (nI y)), some (.int w)] [] M2 := by
            intro hno w
            first | refine g_incn7_5 dX5_growByEach_115 ki_1 (by decide) rfl ?_ | refine g_incg7_5 (nI 1) dX5_growByEach_115 ki_1 (by decide) rfl ?_
            refine g_goto 31 dX5_growByEach_118 (by decide) ?_
            refine Go_sub [some (.ref 35), some (.int (nI n)), some (.int v), some (.int hb), some (.int (nI (x (n - 1)))), some (.int (nI (y + 1))), none] (by simp [subL]) (ihl (by omega) (by omega) M2 m2 b2 g2 hE2 h352 h392 (BM_keep hM2 (fun s q hs hq => ?_) (fun _ h2 => ?_)))
            · rcases hs with hs | ⟨h1, h2, h3, z, h4, h5⟩
              · exact Or.inl (Or.inl hs)
              · by_cases e : z = y
                · rw [e] at h5
                  exact absurd (hno s q hq h2 h3 h5) id
                · exact Or.inl (Or.inr ⟨h1, h2, h3, z, by omega, h5⟩)
            · rcases h2 with h2 | ⟨h1, h2, h3, z, h4, h5⟩
              · exact Or.inl h2
              · exact Or.inr ⟨h1, h2, h3, z, by omega, h5⟩
          refine g_aload_n dX5_growByEach_47 rfl ?_
          refine g_iload dX5_growByEach_48 rfl ?_
          refine g_iload dX5_growByEach_50 rfl ?_
          refine g_call2 dX5_growByEach_52 clG_costOf ml_G_51 gc5 rfl rfl (by decide) (Nat.le_of_ble_eq_true rfl) ?_
          refine SG_costOf hR2 hw hyc hx1.2 ?_
          have hcs : cstR S (hl y) (hl (x (n - 1))) = if mayB S (S 12 (hl y) 0) (hl (x (n - 1))) = true then nI (dlv S (S 12 (hl y) 0) (hl (x (n - 1)))) else -1 := rfl
          refine g_ist7_6 dX5_growByEach_55 (by decide) rfl ?_
          refine g_iload_n dX5_growByEach_57 rfl ?_
          refine g_aload_n dX5_growByEach_58 rfl ?_
          refine g_getr (j := 2) dX5_growByEach_59 gc5 rfl (by decide) rfl (by decide) fl_G_15 ?_
          refine g_iload dX5_growByEach_62 rfl ?_
          refine g_iald_n dX5_growByEach_64 (by first | rfl | assumption) (by first | decide | assumption) (by omega) (by omega) ?_
          try simp (disch := omega) only [h37]
          refine g_iand dX5_growByEach_65 ?_
          refine g_if_ne 115 dX5_growByEach_66 (by decide) (fun c66 => ?_) (fun c66 => ?_)
          · refine hskip (fun s q hq h1 h2 h3 => ?_) _
            unfold bitR at c66
            rw [bt_and hb hly.2.2, Bool.not_eq_false, hbt _ hly.2.2] at c66
            obtain ⟨j, hj, e⟩ := c66
            have := (hq.2.2.1 n h1).2.2.2.2 j hj
            rw [h2 j hj, h3] at this
            exact this e
          · by_cases hmy : mayB S (S 12 (hl y) 0) (hl (x (n - 1))) = true
            · rw [if_pos hmy] at hcs
              rw [hcs]
              have hLb := dlv_le hW (q := S 12 (hl y) 0) (d := hl (x (n - 1))) (by have := (hR.1.2.1 (x (n - 1)) hx1.2).1; omega)
              have hOb := dlv_le hW (q := S 12 (hl y) 0) (d := hl y) (by omega)
              have hmyy := hH (hl y) (by omega) hly.2.2
              unfold bitR at c66
              rw [bt_and hb hly.2.2] at c66
              refine g_iload dX5_growByEach_69 rfl ?_
              refine g_iconst ((-1)) dX5_growByEach_71 ki_m1 ?_
              refine g_icmp_ne 78 dX5_growByEach_72 (by decide) (fun c72 => ?_) (fun c72 => ?_)
              · skip
                refine g_aload_n dX5_growByEach_78 rfl ?_
                refine g_getr (j := 4) dX5_growByEach_79 gc5 rfl (by decide) rfl (by decide) fl_G_21 ?_
                refine g_iload_n dX5_growByEach_82 rfl ?_
                refine g_iload dX5_growByEach_83 rfl ?_
                refine g_iast_n dX5_growByEach_85 (by first | rfl | assumption) (by first | decide | assumption) (by omega) (by omega) ?_
                refine g_aload_n dX5_growByEach_86 rfl ?_
                refine g_iload_n dX5_growByEach_87 rfl ?_
                refine g_iconst (nI 1) dX5_growByEach_88 ki_1 ?_
                first | refine g_iadd_n dX5_growByEach_89 ?_ | refine g_iadd dX5_growByEach_89 ?_
                refine g_iload_n dX5_growByEach_90 rfl ?_
                refine g_aload_n dX5_growByEach_91 rfl ?_
                refine g_iload dX5_growByEach_92 rfl ?_
                refine g_iload dX5_growByEach_94 rfl ?_
                refine g_call2 dX5_growByEach_96 clG_costOf ml_G_51 gc5 rfl rfl (by decide) (Nat.le_of_ble_eq_true rfl) ?_
                have hR3 : RG S (mset M2 39 n (nI y)) k hc hl mc := hR2.off (fun j _ => mset_off (by omega)) (fun i hi => mset_ne (by omega))
                refine SG_costOf hR3 hw hyc hyc ?_
                rw [show cstR S (hl y) (hl y) = nI (dlv S (S 12 (hl y) 0) (hl y)) from if_pos hmyy]
                have h373 : mset M2 39 n (nI y) 37 y = bitR S (hl y) := by rw [mset_ne (by decide)]; exact h37
                refine g_iadd dX5_growByEach_99 ?_
                refine g_iload dX5_growByEach_100 rfl ?_
                refine g_isub dX5_growByEach_102 ?_
                refine g_iload_n dX5_growByEach_103 rfl ?_
                refine g_aload_n dX5_growByEach_104 rfl ?_
                refine g_getr (j := 2) dX5_growByEach_105 gc5 rfl (by decide) rfl (by decide) fl_G_15 ?_
                refine g_iload dX5_growByEach_108 rfl ?_
                refine g_iald_n dX5_growByEach_110 (by first | rfl | assumption) (by first | decide | assumption) (by omega) (by omega) ?_
                try simp (disch := omega) only [h373]
                refine g_ior dX5_growByEach_111 ?_
                refine g_call3 dX5_growByEach_112 clG_grow ml_G_55 gc5 rfl rfl (by decide) (Nat.le_of_ble_eq_true rfl) ?_
                obtain ⟨p, hp⟩ : ∃ p : RW, p = fun i => hl (if i = n then y else x i) := ⟨_, rfl⟩
                have hpr : ∀ i, i < n → p i = r i := fun i hi => by rw [hp, hri]; dsimp only; rw [if_neg (by omega)]
                have hpn : p n = hl y := by rw [hp]; dsimp only; rw [if_pos rfl]
                have hpg : pgR S p (n + 1) = pgR S r n + ((dlv S (S 12 (hl y) 0) (hl y) : Nat) : Int) - ((dlv S (S 12 (hl y) 0) (hl (x (n - 1))) : Nat) : Int) := by
                  rw [pgR, pg_cong hpr]
                  unfold ownR nxtR
                  rw [if_neg (by omega), hpn, hpr (n - 1) (by omega), hri]
                refine ihg (mset M2 39 n (nI y)) _ (fun i => if i = n then y else x i) p _ _ m2 b2 g2 hp hR3 (BM_keep (hM2.off (fun j _ => mset_off (by omega)) (mset_ne (by decide))) (fun s q hs hq => Or.inl (Pm_in hR.1 hyc hpr hpn hq hs)) (fun _ h2 => Pm_out0 hR.1 hyc hpr hpn hn.1 hrk h2)) (fun i hi => ?_) (fun i hi => ?_) (by rw [hpg]; exact t_sub (t_add hv (nI_toInt (by omega)) (by omega)) (nI_toInt (by omega)) (by omega)) (by rw [hpg]; omega) (by have z := BTr.ext hbt hpr (by rw [hpn]; exact hly.2.2); rw [hpn] at z; exact z) (fun M' m' b' g' hE' h35' h39' hBM' => ?_)
                · by_cases e : i = n
                  · subst e; rw [mset_at, if_pos rfl]; exact ⟨rfl, hyc⟩
                  · rw [mset_off (by omega), if_neg e, h392 i (by omega)]; exact hx i (by omega)
                · by_cases e : i = n
                  · subst e
                    rw [hpn]
                    refine ⟨hly.1, hly.2.2, ?_, fun _ => ⟨?_, ?_⟩, fun j hj z => ?_⟩
                    · rw [hpr 0 (by omega), hrk]; exact hly.2.1
                    · rw [hpr 0 (by omega), hri]; exact (hR.1.mono hx0.2 hyc).mpr hxy
                    · rw [hpr (i - 1) (by omega), hri]; exact hmy
                    · rw [hpr j hj] at z
                      have := (hbt _ hly.2.2).mpr ⟨j, hj, z⟩
                      rw [c66] at this
                      cases this
                  · obtain ⟨z1, z2, z3, z4, z5⟩ := hrow i (by omega)
                    rw [hpr i (by omega), hpr 0 (by omega)]
                    refine ⟨z1, z2, z3, fun h0 => ?_, fun j hj => ?_⟩
                    · rw [hpr (i - 1) (by omega)]; exact z4 h0
                    · rw [hpr j (by omega)]; exact z5 j hj
                · skip
                  first | refine g_incn7_5 dX5_growByEach_115 ki_1 (by decide) rfl ?_ | refine g_incg7_5 (nI 1) dX5_growByEach_115 ki_1 (by decide) rfl ?_
                  refine g_goto 31 dX5_growByEach_118 (by decide) ?_
                  refine Go_sub [some (.ref 35), some (.int (nI n)), some (.int v), some (.int hb), some (.int (nI (x (n - 1)))), some (.int (nI (y + 1))), none] (by simp [subL]) (ihl (by omega) (by omega) M' m' b' g' (hE2.tr ((EqO.set (by decide)).tr hE')) (fun j j8 j9 => by rw [h35' j j8 j9, mset_off (by omega)]; exact h352 j j8 j9) (fun i hi => by rw [h39' i (by omega), mset_off (by omega)]; exact h392 i hi) (BM_keep hBM' (fun s q hs hq => Or.inl (Pm_out hR.1 hyc hpr hpn hn.1 hrk hs)) (fun h1 h2 => ?_)))
                  rcases h2 with h2 | ⟨h2, h3, h4⟩
                  · rcases Pm_in hR.1 hyc hpr hpn h1 h2 with z | ⟨z1, z2, z3, z, z4, z5⟩
                    · exact Or.inl z
                    · exact Or.inr ⟨z1, z2, z3, z, by omega, z5⟩
                  · exact Or.inr ⟨h2, by omega, fun i hi => by rw [h4 i (by omega), hpr i hi], y, by omega, by rw [h4 n (by omega), hpn]⟩
              · exact absurd c72 (fun z => nI_m1 (by omega) z)
            · rw [if_neg hmy] at hcs
              rw [hcs]
              refine g_iload dX5_growByEach_69 rfl ?_
              refine g_iconst ((-1)) dX5_growByEach_71 ki_m1 ?_
              refine g_icmp_ne 78 dX5_growByEach_72 (by decide) (fun c72 => ?_) (fun c72 => ?_)
              · exact absurd rfl c72
              · refine g_goto 115 dX5_growByEach_75 (by decide) ?_
                refine hskip (fun s q hq h1 h2 h3 => ?_) _
                have := ((hq.2.2.1 n h1).2.2.2.1 (by omega)).2
                rw [h3, h2 (n - 1) (by omega), hri] at this
                exact hmy this
    · exact absurd hn.2 (by omega)
theorem SG_growS {d : Nat} {S : BS} {k hc mc n : Nat} {hl : Nat → Nat} (hW : WF S) (hn : 1 ≤ n ∧ n ≤ 4) (ihb : n < 4 → GbS S k hc mc hl (d + 3) n) : GrS S k hc mc hl (d + 4) n := by
  intro M Q x r v hb m b g hr hR hM hx hrow hv hpb hbt h
  have hw := hW.nd
  have hc24 := hR.1.1
  have hri : ∀ i, r i = hl (x i) := fun i => by rw [hr]
  have hx0 := hx 0 (by omega)
  have hrk : S 11 (r 0) 0 = k := by rw [hri]; exact (hR.1.2.1 (x 0) hx0.2).2.1
  have hmc := hR.2.2.2.2.1
  have hmid : ∀ M1 m1 b1 g1, EqO [35, 40] M M1 → (∀ j, j ≠ 8 → j ≠ 9 → M1 35 j = M 35 j) → BM S M1 (fun s q => bef S k n r s q ∨ sameR n r s q) m1 b1 g1 → Go mG_grow (d + 4) Q 22 [some (.ref 35), some (.int (nI n)), some (.int v), some (.int hb), none] [] M1 := by
    intro M1 m1 b1 g1 hE1 h351 hM1
    have h7 : M1 35 7 = nI mc := by rw [h351 7 (by omega) (by omega)]; exact hR.2.2.2.1
    have h9 : M1 35 9 = nI g1 := hM1.2.1
    have hg1 := hM1.2.2.2.1
    have hE1' : EqO [35, 39, 40] M M1 := hE1.sub (by decide)
    have h39 : M1 39 = M 39 := hE1 39 (by decide)
    have h36 : (4 - n) * mc ≤ 4 * 9 := Nat.mul_le_mul (by omega) hmc
    have htw : (v + nI ((4 - n) * mc)).toInt = pgR S r n + (((4 - n) * mc : Nat) : Int) := t_add hv (nI_toInt (by omega)) (by omega)
    have hprune : ∀ s q, ringOK S q s → pfx S k n r s q → gnR S q s ≤ pgR S r n + (((4 - n) * mc : Nat) : Int) := fun s q h1 h2 => prune hR.1 hR.2.2.2.2.2 h1 h2
    have hKb : (v + nI ((4 - n) * mc)).toInt = pgR S r n + (((4 - n) * mc : Nat) : Int) := htw
    refine g_iload_n dX5_grow_22 rfl ?_
    refine g_iconst (nI 4) dX5_grow_23 ki_4 ?_
    refine g_iload_n dX5_grow_24 rfl ?_
    first | refine g_isub_n dX5_grow_25 (by omega) ?_ | refine g_isub dX5_grow_25 ?_
    refine g_aload_n dX5_grow_26 rfl ?_
    refine g_geti (j := 7) dX5_grow_27 gc5 rfl (by decide) rfl (by decide) fl_G_35 ?_
    try simp (disch := omega) only [h7]
    first | refine g_imul_n dX5_grow_30 ?_ | refine g_imul dX5_grow_30 ?_
    refine g_iadd dX5_grow_31 ?_
    refine g_ist5_4 dX5_grow_32 (by decide) rfl ?_
    generalize v + nI ((4 - n) * mc) = w0 at htw hKb ⊢
    generalize ((4 - n) * mc : Nat) = KK at htw hprune hKb
    refine g_iload_n dX5_grow_34 rfl ?_
    refine g_iconst (nI 4) dX5_grow_35 ki_4 ?_
    refine g_icmp_ge_n 60 dX5_grow_36 (by decide) (by omega) (by omega) (fun c36 => ?_) (fun c36 => ?_)
    · refine g_return dX5_grow_60 rfl ?_
      refine h M1 m1 b1 g1 hE1' h351 (fun i _ => by rw [h39]) (BM_keep hM1 (fun s q hs hq => ?_) (fun h1 h2 => ?_))
      · rcases hs with hs | ⟨hs1, hs2, hs3⟩
        · exact Or.inl (Or.inl hs)
        · have := hq.2.1
          exact Or.inl (Or.inr ⟨by omega, fun i hi => (hs3 i hi).symm⟩)
      · rcases h2 with h2 | ⟨h2, h3⟩
        · exact Or.inl h2
        · exact Or.inr ⟨by rw [← h3 0 (by omega)]; exact hrk, by omega, fun i hi => (h3 i hi).symm⟩
    · have hkeep : (∀ s q, ringOK S q s → pfx S k n r s q → gnR S q s ≤ 0 ∨ (m1 ≠ 0 ∧ btR S m1 b1 s q)) → BM S M1 (fun s q => bef S k n r s q ∨ pfx S k n r s q) m1 b1 g1 := by
        intro hy
        refine BM_keep hM1 (fun s q hs hq => ?_) (fun h1 h2 => ?_)
        · rcases hs with hs | hs
          · exact Or.inl (Or.inl hs)
          · rcases hy s q hq hs with z | z
            · exact Or.inr (Or.inl z)
            · exact Or.inr (Or.inr ⟨z.1, Or.inr z.2⟩)
        · rcases h2 with h2 | ⟨h2, h3⟩
          · exact Or.inl h2
          · exact Or.inr ⟨by rw [← h3 0 (by omega)]; exact hrk, by omega, fun i hi => (h3 i hi).symm⟩
      refine g_iload dX5_grow_39 rfl ?_
      refine g_if_le 60 dX5_grow_41 (by decide) (fun c41 => ?_) (fun c41 => ?_)
      · refine g_return dX5_grow_60 rfl ?_
        refine h M1 m1 b1 g1 hE1' h351 (fun i _ => by rw [h39]) (hkeep (fun s q hq hs => Or.inl ?_))
        have := hprune s q hq hs
        rw [Int32.le_iff_toInt_le, htw] at c41
        have c41 : pgR S r n + (KK : Int) ≤ 0 := c41
        omega
      · have hpos : 0 < pgR S r n + (KK : Int) := by
          rw [← htw]
          exact Int32.lt_iff_toInt_lt.mp (Int32.not_le.mp (by simpa using c41))
        refine g_iload dX5_grow_44 rfl ?_
        refine g_aload_n dX5_grow_46 rfl ?_
        refine g_geti (j := 9) dX5_grow_47 gc5 rfl (by decide) rfl (by decide) fl_G_41 ?_
        try simp (disch := omega) only [h9]
        refine g_icmp_lt 60 dX5_grow_50 (by decide) (fun c50 => ?_) (fun c50 => ?_)
        · refine g_return dX5_grow_60 rfl ?_
          refine h M1 m1 b1 g1 hE1' h351 (fun i _ => by rw [h39]) (hkeep (fun s q hq hs => Or.inr ?_))
          have h1 := hprune s q hq hs
          have c50 : pgR S r n + (KK : Int) < (g1 : Int) := by
            have := Int32.lt_iff_toInt_lt.mp c50
            rw [htw, nI_toInt (by omega)] at this
            exact this
          have hm0 : m1 ≠ 0 := fun z => by have := hM1.2.2.2.2.1 z; omega
          have hgn := hM1.2.2.2.2.2.1 (by omega)
          exact ⟨hm0, Or.inl (by omega)⟩
        · refine g_aload_n dX5_grow_53 rfl ?_
          refine g_iload_n dX5_grow_54 rfl ?_
          refine g_iload_n dX5_grow_55 rfl ?_
          refine g_iload_n dX5_grow_56 rfl ?_
          refine g_call3 dX5_grow_57 clG_growByEach ml_G_87 gc5 rfl rfl (by decide) (Nat.le_of_ble_eq_true rfl) ?_
          have hR1 : RG S M1 k hc hl mc := hR.off (fun j hj => h351 j (by omega) (by omega)) (fun i hi => hE1' i (by simp; omega))
          refine ihb (by omega) M1 _ x r v hb m1 b1 g1 hr hR1 hM1 (fun i hi => by rw [h39]; exact hx i hi) hrow hv hpb hbt (fun M' m' b' g' hE' h35' h39' hBM' => ?_)
          refine g_return dX5_grow_60 rfl ?_
          exact h M' m' b' g' (hE1'.tr hE') (fun j j8 j9 => (h35' j j8 j9).trans (h351 j j8 j9)) (fun i hi => by rw [h39' i hi, h39]) hBM'
  refine Call_of (m := mG_grow) [some (.ref 35), some (.int (nI n)), some (.int v), some (.int hb), none] rfl (fun G => Nat.le_of_ble_eq_true rfl) (fun G => rfl) ?_
  refine g_iload_n dX5_grow_0 rfl ?_
  refine g_iconst (nI 1) dX5_grow_1 ki_1 ?_
  refine g_icmp_lt_n 10 dX5_grow_2 (by decide) (by omega) (by omega) (fun c2 => ?_) (fun c2 => ?_)
  · exact absurd hn.1 (by omega)
  · refine g_iload_n dX5_grow_5 rfl ?_
    refine g_iconst (nI 4) dX5_grow_6 ki_4 ?_
    refine g_icmp_le_n 11 dX5_grow_7 (by decide) (by omega) (by omega) (fun c7 => ?_) (fun c7 => ?_)
    · refine g_iload_n dX5_grow_11 rfl ?_
      refine g_iconst (nI 1) dX5_grow_12 ki_1 ?_
      refine g_icmp_le_n 22 dX5_grow_13 (by decide) (by omega) (by omega) (fun c13 => ?_) (fun c13 => ?_)
      · refine hmid M m b g EqO.rf (fun j _ _ => rfl) (BM_keep hM (fun s q hs hq => ?_) (fun _ h => Or.inl h))
        rcases hs with hs | hs
        · exact Or.inl hs
        · have := hq.1
          have := hs.1
          omega
      · refine g_aload_n dX5_grow_16 rfl ?_
        refine g_iload_n dX5_grow_17 rfl ?_
        refine g_iload_n dX5_grow_18 rfl ?_
        refine g_call2 dX5_grow_19 clG_tryRing ml_G_83 gc5 rfl rfl (by decide) (Nat.le_of_ble_eq_true rfl) ?_
        refine SG_tryRing (P := bef S k n r) (m := m) (b := b) (g := g) hR hW hM (by omega) hx (by rw [← hr]; exact hrow) (by rw [← hr]; exact hv) (by rw [← hr]; omega) (fun s q h1 h2 h3 h4 => by rw [← hr]; exact bef_same h1 h3 hrk (h4.trans (hri 0).symm)) (fun M1 m1 b1 g1 hE1 h351 hM1 => ?_)
        rw [← hr] at hM1
        exact hmid M1 m1 b1 g1 hE1 h351 hM1
    · exact absurd hn.2 (by omega)
theorem SG_grow {S : BS} {k hc mc : Nat} {hl : Nat → Nat} (hW : WF S) (hH : HM S) : ∀ t n, n + t = 4 → 1 ≤ n → ∀ d, GrS S k hc mc hl (d + 2 * t + 4) n := by
  intro t
  induction t with
  | zero => exact fun n hn h1 d => SG_growS hW (by omega) (fun z => absurd z (by omega))
  | succ t ih =>
    intro n hn h1 d
    have hg := ih (n + 1) (by omega) (by omega) d
    rw [show d + 2 * t + 4 = d + 2 * t + 2 + 2 by omega] at hg
    have hb := SG_growByEachS hW hH (d := d + 2 * t + 2) ⟨h1, by omega⟩ hg
    have z := SG_growS hW (d := d + 2 * t + 2) ⟨h1, by omega⟩ (fun _ => hb)
    rw [show d + 2 * t + 2 + 4 = d + 2 * (t + 1) + 4 by omega] at z
    exact z
