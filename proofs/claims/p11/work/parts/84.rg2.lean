/-! RINGS in the class: who holds, what it costs -/
/-- the held duties of a kind, below b, in their order -/
def HLp (S : BS) (k hc : Nat) (hl : Nat → Nat) (b : Nat) : Prop := hc ≤ b ∧ (∀ i, i < hc → hl i < b ∧ S 11 (hl i) 0 = k ∧ S 12 (hl i) 0 < 8) ∧ (∀ i j, i < j → j < hc → hl i < hl j) ∧ ∀ e, e < b → S 11 e 0 = k → S 12 e 0 < 8 → ∃ i, i < hc ∧ hl i = e
theorem HLp.skip {S : BS} {k hc b : Nat} {hl : Nat → Nat} (h : HLp S k hc hl b) (hb : ¬ (S 11 b 0 = k ∧ S 12 b 0 < 8)) : HLp S k hc hl (b + 1) := by
  obtain ⟨h1, h2, h3, h4⟩ := h
  refine ⟨by omega, fun i hi => ⟨by have := (h2 i hi).1; omega, (h2 i hi).2⟩, h3, fun e he hk h8 => ?_⟩
  by_cases z : e = b
  · subst z; exact absurd ⟨hk, h8⟩ hb
  · exact h4 e (by omega) hk h8
theorem HLp.add {S : BS} {k hc b : Nat} {hl : Nat → Nat} (h : HLp S k hc hl b) (hb : S 11 b 0 = k ∧ S 12 b 0 < 8) : HLp S k (hc + 1) (fun i => if i = hc then b else hl i) (b + 1) := by
  obtain ⟨h1, h2, h3, h4⟩ := h
  refine ⟨by omega, fun i hi => ?_, fun i j hij hj => ?_, fun e he hk h8 => ?_⟩
  · by_cases z : i = hc
    · dsimp only; rw [if_pos z]; exact ⟨by omega, hb⟩
    · dsimp only; rw [if_neg z]
      have := h2 i (by omega)
      exact ⟨by omega, this.2⟩
  · dsimp only
    rw [if_neg (show ¬ i = hc by omega)]
    by_cases z : j = hc
    · rw [if_pos z]; exact (h2 i (by omega)).1
    · rw [if_neg z]; exact h3 i j hij (by omega)
  · by_cases z : e = b
    · exact ⟨hc, by omega, by dsimp only; rw [if_pos rfl, z]⟩
    · obtain ⟨i, hi, e1⟩ := h4 e (by omega) hk h8
      exact ⟨i, by omega, by dsimp only; rw [if_neg (by omega)]; exact e1⟩
def bitR (S : BS) (e : Nat) : Int32 := nI 1 <<< (nI (S 12 e 0) &&& 31)
def HLm (S : BS) (M : Mm) (hc : Nat) (hl : Nat → Nat) : Prop := M 35 6 = nI hc ∧ ∀ i, i < hc → M 36 i = nI (hl i) ∧ M 37 i = bitR S (hl i)
theorem SG_noteHeld {d : Nat} {M : Mm} {S : BS} {Q : Po} {k : Nat} (hB : BK M S) (hk : k < 4) (h : ∀ M' hc hl, EqO [35, 36, 37] M M' → (∀ j, j ≠ 6 → M' 35 j = M 35 j) → HLp S k hc hl (S 1 0 0) → HLm S M' hc hl → Q M' none) : Call (d + 3) mG_noteHeld [.ref 35, .int (nI k)] M Q := by
  have hw := hB.wf.nd
  refine Call_of (m := mG_noteHeld) [some (.ref 35), some (.int (nI k)), none, none] rfl (fun G => Nat.le_of_ble_eq_true rfl) (fun G => rfl) ?_
  refine g_aload_n dX5_noteHeld_0 rfl ?_
  refine g_iconst (nI 0) dX5_noteHeld_1 ki_0 ?_
  refine g_puti (j := 6) dX5_noteHeld_2 gc5 rfl (by decide) rfl (by decide) fl_G_31 rfl (tyX5_ok 6 (by decide)) (by first | rfl | exact nar_bI _) rfl ?_
  refine g_iconst (nI 0) dX5_noteHeld_5 ki_0 ?_
  refine g_ist4_2 dX5_noteHeld_6 (by decide) rfl ?_
  suffices hloop : ∀ r i, i + r = S 1 0 0 → ∀ M' hc hl, EqO [35, 36, 37] M M' → (∀ j, j ≠ 6 → M' 35 j = M 35 j) → HLp S k hc hl i → HLm S M' hc hl → Go mG_noteHeld (d + 3) Q 7 [some (.ref 35), some (.int (nI k)), some (.int (nI i)), none] [] M' by
    exact hloop (S 1 0 0) 0 (by omega) _ 0 (fun _ => 0) (EqO.set (by decide)) (fun j hj => mset_off (by omega)) ⟨Nat.le_refl 0, fun i hi => absurd hi (by omega), fun i j _ hj => absurd hj (by omega), fun e he => absurd he (by omega)⟩ ⟨mset_at _ _ _ _, fun i hi => absurd hi (by omega)⟩
  intro r
  induction r with
  | zero =>
    intro i hir M' hc hl hE h35 hp hm
    have hB' : BK M' S := hB.eqO hE (by decide)
    refine g_iload_n dX5_noteHeld_7 rfl ?_
    refine g_aload_n dX5_noteHeld_8 rfl ?_
    refine g_getr (j := 0) dX5_noteHeld_9 gc5 rfl (by decide) rfl (by decide) fl_G_27 ?_
    refine g_geti (j := 1) dX5_noteHeld_12 gc0 rfl (by decide) rfl (by decide) fl_G_59 ?_
    try simp (disch := omega) only [hB'.nd]
    refine g_icmp_ge_n 94 dX5_noteHeld_15 (by decide) (by omega) (by omega) (fun c15 => ?_) (fun c15 => ?_)
    · refine g_return dX5_noteHeld_94 rfl ?_
      rw [show i = S 1 0 0 by omega] at hp
      exact h M' hc hl hE h35 hp hm
    · exact absurd hir (by omega)
  | succ r ih =>
    intro i hir M' hc hl hE h35 hp hm
    have hB' : BK M' S := hB.eqO hE (by decide)
    have hd := hB.wf.dk (d := i) (by omega)
    have h6 := hm.1
    have hci := hp.1
    have hskip : ∀ w, ¬ (S 11 i 0 = k ∧ S 12 i 0 < 8) → Go mG_noteHeld (d + 3) Q 88 [some (.ref 35), some (.int (nI k)), some (.int (nI i)), some (.int w)] [] M' := by
      intro w hb
      first | refine g_incn4_2 dX5_noteHeld_88 ki_1 (by decide) rfl ?_ | refine g_incg4_2 (nI 1) dX5_noteHeld_88 ki_1 (by decide) rfl ?_
      refine g_goto 7 dX5_noteHeld_91 (by decide) ?_
      exact Go_sub [some (.ref 35), some (.int (nI k)), some (.int (nI (i + 1))), none] (by simp [subL]) (ih (i + 1) (by omega) M' hc hl hE h35 (hp.skip hb) hm)
    refine g_iload_n dX5_noteHeld_7 rfl ?_
    refine g_aload_n dX5_noteHeld_8 rfl ?_
    refine g_getr (j := 0) dX5_noteHeld_9 gc5 rfl (by decide) rfl (by decide) fl_G_27 ?_
    refine g_geti (j := 1) dX5_noteHeld_12 gc0 rfl (by decide) rfl (by decide) fl_G_59 ?_
    try simp (disch := omega) only [hB'.nd, h6]
    refine g_icmp_ge_n 94 dX5_noteHeld_15 (by decide) (by omega) (by omega) (fun c15 => ?_) (fun c15 => ?_)
    · exact absurd hir (by omega)
    · refine g_aload_n dX5_noteHeld_18 rfl ?_
      refine g_geti (j := 6) dX5_noteHeld_19 gc5 rfl (by decide) rfl (by decide) fl_G_31 ?_
      try simp (disch := omega) only [hB'.nd, h6]
      refine g_bipush (nI 24) dX5_noteHeld_22 kb_24 ?_
      refine g_icmp_ge_n 94 dX5_noteHeld_24 (by decide) (by omega) (by omega) (fun c24 => ?_) (fun c24 => ?_)
      · exact absurd hw (by omega)
      · refine g_aload_n dX5_noteHeld_27 rfl ?_
        refine g_getr (j := 0) dX5_noteHeld_28 gc5 rfl (by decide) rfl (by decide) fl_G_27 ?_
        refine g_iload_n dX5_noteHeld_31 rfl ?_
        refine g_call1 dX5_noteHeld_32 clB_holderOf ml_G_64 gc0 rfl rfl (by decide) (Nat.le_of_ble_eq_true rfl) ?_
        refine SB_holderOf hB' (by omega) ?_
        refine g_ist4_3 dX5_noteHeld_35 (by decide) rfl ?_
        refine g_aload_n dX5_noteHeld_36 rfl ?_
        refine g_getr (j := 0) dX5_noteHeld_37 gc5 rfl (by decide) rfl (by decide) fl_G_27 ?_
        refine g_iload_n dX5_noteHeld_40 rfl ?_
        refine g_call1 dX5_noteHeld_41 clB_kindOf ml_G_68 gc0 rfl rfl (by decide) (Nat.le_of_ble_eq_true rfl) ?_
        refine SB_kindOf hB' (by omega) ?_
        refine g_iload_n dX5_noteHeld_44 rfl ?_
        refine g_icmp_ne_n 88 dX5_noteHeld_45 (by decide) (by omega) (by omega) (fun c45 => ?_) (fun c45 => ?_)
        · exact hskip _ (fun z => c45 z.1)
        · skip
          refine g_iload_n dX5_noteHeld_48 rfl ?_
          refine g_iconst ((-1)) dX5_noteHeld_49 ki_m1 ?_
          refine g_icmp_ne 56 dX5_noteHeld_50 (by decide) (fun c50 => ?_) (fun c50 => ?_)
          · rw [hv_open _ hd.2.2] at c50
            rw [hv_p (p := S 12 i 0) (by omega)]
            refine g_aload_n dX5_noteHeld_56 rfl ?_
            refine g_getr (j := 1) dX5_noteHeld_57 gc5 rfl (by decide) rfl (by decide) fl_G_9 ?_
            refine g_aload_n dX5_noteHeld_60 rfl ?_
            refine g_geti (j := 6) dX5_noteHeld_61 gc5 rfl (by decide) rfl (by decide) fl_G_31 ?_
            try simp (disch := omega) only [mset_ne, h6]
            refine g_iload_n dX5_noteHeld_64 rfl ?_
            refine g_iast_n dX5_noteHeld_65 (by first | rfl | assumption) (by first | decide | assumption) (by omega) (by omega) ?_
            refine g_aload_n dX5_noteHeld_66 rfl ?_
            refine g_getr (j := 2) dX5_noteHeld_67 gc5 rfl (by decide) rfl (by decide) fl_G_15 ?_
            refine g_aload_n dX5_noteHeld_70 rfl ?_
            refine g_geti (j := 6) dX5_noteHeld_71 gc5 rfl (by decide) rfl (by decide) fl_G_31 ?_
            try simp (disch := omega) only [mset_ne, h6]
            refine g_iconst (nI 1) dX5_noteHeld_74 ki_1 ?_
            refine g_iload_n dX5_noteHeld_75 rfl ?_
            refine g_ishl dX5_noteHeld_76 ?_
            refine g_iast_n dX5_noteHeld_77 (by first | rfl | assumption) (by first | decide | assumption) (by omega) (by omega) ?_
            refine g_aload_n dX5_noteHeld_78 rfl ?_
            refine g_dup dX5_noteHeld_79 rfl ?_
            refine g_geti (j := 6) dX5_noteHeld_80 gc5 rfl (by decide) rfl (by decide) fl_G_31 ?_
            try simp (disch := omega) only [mset_ne, h6]
            refine g_iconst (nI 1) dX5_noteHeld_83 ki_1 ?_
            first | refine g_iadd_n dX5_noteHeld_84 ?_ | refine g_iadd dX5_noteHeld_84 ?_
            refine g_puti (j := 6) dX5_noteHeld_85 gc5 rfl (by decide) rfl (by decide) fl_G_31 rfl (tyX5_ok 6 (by decide)) (by first | rfl | exact nar_bI _) rfl ?_
            first | refine g_incn4_2 dX5_noteHeld_88 ki_1 (by decide) rfl ?_ | refine g_incg4_2 (nI 1) dX5_noteHeld_88 ki_1 (by decide) rfl ?_
            refine g_goto 7 dX5_noteHeld_91 (by decide) ?_
            have h12 : S 12 i 0 < 8 := by omega
            refine Go_sub [some (.ref 35), some (.int (nI k)), some (.int (nI (i + 1))), none] (by simp [subL]) (ih (i + 1) (by omega) _ (hc + 1) _ (hE.tr (((EqO.set (by decide)).tr (EqO.set (by decide))).tr (EqO.set (by decide)))) (fun j hj => ?_) (hp.add ⟨c45, h12⟩) ⟨mset_at _ _ _ _, fun x hx => ?_⟩)
            · rw [mset_off (by omega), mset_ne (by decide), mset_ne (by decide)]; exact h35 j hj
            · by_cases z : x = hc
              · subst z
                refine ⟨?_, ?_⟩
                · rw [mset_ne (by decide), mset_ne (by decide), mset_at]; dsimp only; rw [if_pos rfl]
                · rw [mset_ne (by decide), mset_at]; dsimp only; rw [if_pos rfl]; rfl
              · have := hm.2 x (by omega)
                refine ⟨?_, ?_⟩
                · rw [mset_ne (by decide), mset_ne (by decide), mset_off (by omega)]; dsimp only; rw [if_neg z]; exact this.1
                · rw [mset_ne (by decide), mset_off (by omega), mset_ne (by decide)]; dsimp only; rw [if_neg z]; exact this.2
          · rw [hv_open _ hd.2.2] at c50
            refine g_goto 88 dX5_noteHeld_53 (by decide) ?_
            exact hskip _ (fun z => by omega)
