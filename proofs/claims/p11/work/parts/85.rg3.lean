/-! RINGS in the class: the costs -/
def cstR (S : BS) (d e : Nat) : Int32 := if mayB S (S 12 d 0) e = true then nI (dlv S (S 12 d 0) e) else -1
def CSr (S : BS) (M : Mm) (hc : Nat) (hl : Nat → Nat) (a b : Nat) : Prop := ∀ x y, y < hc → (x < a ∨ (x = a ∧ y < b)) → M 38 (x * 24 + y) = cstR S (hl x) (hl y)
theorem SG_noteCosts {d : Nat} {M : Mm} {S : BS} {Q : Po} {k hc : Nat} {hl : Nat → Nat} (hB : BK M S) (hH : HM S) (hp : HLp S k hc hl (S 1 0 0)) (hm : HLm S M hc hl) (h : ∀ M' mc, EqO [35, 38] M M' → (∀ j, j ≠ 7 → M' 35 j = M 35 j) → CSr S M' hc hl hc 0 → mc ≤ 9 → M' 35 7 = nI mc → (∀ a, a < hc → dlv S (S 12 (hl a) 0) (hl a) ≤ mc) → Q M' none) : Call (d + 3) mG_noteCosts [.ref 35] M Q := by
  have hw := hB.wf.nd
  have hc24 := hp.1
  refine Call_of (m := mG_noteCosts) [some (.ref 35), none, none, none, none] rfl (fun G => Nat.le_of_ble_eq_true rfl) (fun G => rfl) ?_
  refine g_aload_n dX5_noteCosts_0 rfl ?_
  refine g_iconst (nI 0) dX5_noteCosts_1 ki_0 ?_
  refine g_puti (j := 7) dX5_noteCosts_2 gc5 rfl (by decide) rfl (by decide) fl_G_35 rfl (tyX5_ok 7 (by decide)) (by first | rfl | exact nar_bI _) rfl ?_
  refine g_iconst (nI 0) dX5_noteCosts_5 ki_0 ?_
  refine g_ist5_1 dX5_noteCosts_6 (by decide) rfl ?_
  refine loop_up (P := fun a => ∀ M' mc, EqO [35, 38] M M' → (∀ j, j ≠ 7 → M' 35 j = M 35 j) → CSr S M' hc hl a 0 → mc ≤ 9 → M' 35 7 = nI mc → (∀ x, x < a → dlv S (S 12 (hl x) 0) (hl x) ≤ mc) → Go mG_noteCosts (d + 3) Q 7 [some (.ref 35), some (.int (nI a)), none, none, none] [] M') hc ?_ 0 (Nat.zero_le _) _ 0 (EqO.set (by decide)) (fun j hj => mset_off (by omega)) (fun x y _ z => absurd z (by omega)) (by omega) (mset_at _ _ _ _) (fun x hx => absurd hx (by omega))
  intro a ha iha M' mc hE h35 hcs hmc h7 hown
  have h6 : M' 35 6 = nI hc := by rw [h35 6 (by omega)]; exact hm.1
  have h36 : ∀ x, x < hc → M' 36 x = nI (hl x) := fun x hx => by rw [hE 36 (by decide)]; exact (hm.2 x hx).1
  have hB' : BK M' S := hB.eqO hE (by decide)
  refine g_iload_n dX5_noteCosts_7 rfl ?_
  refine g_aload_n dX5_noteCosts_8 rfl ?_
  refine g_geti (j := 6) dX5_noteCosts_9 gc5 rfl (by decide) rfl (by decide) fl_G_31 ?_
  try simp (disch := omega) only [h6, h36]
  refine g_icmp_ge_n 135 dX5_noteCosts_12 (by decide) (by omega) (by omega) (fun c12 => ?_) (fun c12 => ?_)
  · refine g_return dX5_noteCosts_135 rfl ?_
    rw [show a = hc by omega] at hcs hown
    exact h M' mc hE h35 hcs hmc h7 hown
  · have hla := hp.2.1 a (by omega)
    have hdk := hB.wf.dk (d := hl a) (by omega)
    have h8 := hla.2.2
    refine g_iload_n dX5_noteCosts_15 rfl ?_
    refine g_bipush (nI 24) dX5_noteCosts_16 kb_24 ?_
    refine g_icmp_ge_n 135 dX5_noteCosts_18 (by decide) (by omega) (by omega) (fun c18 => ?_) (fun c18 => ?_)
    · exact absurd hw (by omega)
    · refine g_aload_n dX5_noteCosts_21 rfl ?_
      refine g_getr (j := 0) dX5_noteCosts_22 gc5 rfl (by decide) rfl (by decide) fl_G_27 ?_
      refine g_aload_n dX5_noteCosts_25 rfl ?_
      refine g_getr (j := 1) dX5_noteCosts_26 gc5 rfl (by decide) rfl (by decide) fl_G_9 ?_
      refine g_iload_n dX5_noteCosts_29 rfl ?_
      refine g_iald_n dX5_noteCosts_30 (by first | rfl | assumption) (by first | decide | assumption) (by omega) (by omega) ?_
      try simp (disch := omega) only [h6, h36]
      refine g_call1 dX5_noteCosts_31 clB_holderOf ml_G_64 gc0 rfl rfl (by decide) (Nat.le_of_ble_eq_true rfl) ?_
      refine SB_holderOf hB' (by omega) ?_
      rw [hv_p (p := S 12 (hl a) 0) h8]
      refine g_ist5_2 dX5_noteCosts_34 (by decide) rfl ?_
      refine g_iconst (nI 0) dX5_noteCosts_35 ki_0 ?_
      refine g_ist5_3 dX5_noteCosts_36 (by decide) rfl ?_
      refine loop_up (P := fun b => ∀ M', EqO [35, 38] M M' → (∀ j, j ≠ 7 → M' 35 j = M 35 j) → CSr S M' hc hl a b → M' 35 7 = nI mc → Go mG_noteCosts (d + 3) Q 37 [some (.ref 35), some (.int (nI a)), some (.int (nI (S 12 (hl a) 0))), some (.int (nI b)), none] [] M') hc ?_ 0 (Nat.zero_le _) M' hE h35 hcs h7
      intro b hb ihb M' hE h35 hcs h7
      have h6 : M' 35 6 = nI hc := by rw [h35 6 (by omega)]; exact hm.1
      have h36 : ∀ x, x < hc → M' 36 x = nI (hl x) := fun x hx => by rw [hE 36 (by decide)]; exact (hm.2 x hx).1
      have hB' : BK M' S := hB.eqO hE (by decide)
      refine g_iload_n dX5_noteCosts_37 rfl ?_
      refine g_aload_n dX5_noteCosts_38 rfl ?_
      refine g_geti (j := 6) dX5_noteCosts_39 gc5 rfl (by decide) rfl (by decide) fl_G_31 ?_
      try simp (disch := omega) only [h6, h36, h7]
      refine g_icmp_ge_n 107 dX5_noteCosts_42 (by decide) (by omega) (by omega) (fun c42 => ?_) (fun c42 => ?_)
      · have hbc : b = hc := by omega
        subst hbc
        have hmy := hH (hl a) (by omega) h8
        have hca : M' 38 (a * 24 + a) = nI (dlv S (S 12 (hl a) 0) (hl a)) := by
          rw [hcs a a (by omega) (Or.inr ⟨rfl, by omega⟩)]
          unfold cstR
          rw [if_pos hmy]
        have hdl := dlv_le hB.wf (q := S 12 (hl a) 0) (d := hl a) (by omega)
        refine g_aload_n dX5_noteCosts_107 rfl ?_
        refine g_aload_n dX5_noteCosts_108 rfl ?_
        refine g_geti (j := 7) dX5_noteCosts_109 gc5 rfl (by decide) rfl (by decide) fl_G_35 ?_
        try simp (disch := omega) only [h7, hca]
        refine g_aload_n dX5_noteCosts_112 rfl ?_
        refine g_getr (j := 3) dX5_noteCosts_113 gc5 rfl (by decide) rfl (by decide) fl_G_18 ?_
        refine g_iload_n dX5_noteCosts_116 rfl ?_
        refine g_bipush (nI 24) dX5_noteCosts_117 kb_24 ?_
        first | refine g_imul_n dX5_noteCosts_119 ?_ | refine g_imul dX5_noteCosts_119 ?_
        refine g_iload_n dX5_noteCosts_120 rfl ?_
        first | refine g_iadd_n dX5_noteCosts_121 ?_ | refine g_iadd dX5_noteCosts_121 ?_
        refine g_iald_n dX5_noteCosts_122 (by first | rfl | assumption) (by first | decide | assumption) (by omega) (by omega) ?_
        try simp (disch := omega) only [h7, hca]
        refine g_mmax dX5_noteCosts_123 mm_G_78 ms_max ti_java_lang_Math mc_max (Nat.le_of_ble_eq_true rfl) ?_
        rw [show (if nI mc < nI (dlv S (S 12 (hl a) 0) (hl a)) then nI (dlv S (S 12 (hl a) 0) (hl a)) else nI mc) = nI (if mc < dlv S (S 12 (hl a) 0) (hl a) then dlv S (S 12 (hl a) 0) (hl a) else mc) from ?_]
        · generalize hmx : (if mc < dlv S (S 12 (hl a) 0) (hl a) then dlv S (S 12 (hl a) 0) (hl a) else mc) = mx
          have hmx2 : mc ≤ mx ∧ dlv S (S 12 (hl a) 0) (hl a) ≤ mx ∧ mx ≤ 9 := by
            rw [← hmx]
            split <;> omega
          refine g_puti (j := 7) dX5_noteCosts_126 gc5 rfl (by decide) rfl (by decide) fl_G_35 rfl (tyX5_ok 7 (by decide)) (by first | rfl | exact nar_bI _) rfl ?_
          first | refine g_incn5_1 dX5_noteCosts_129 ki_1 (by decide) rfl ?_ | refine g_incg5_1 (nI 1) dX5_noteCosts_129 ki_1 (by decide) rfl ?_
          refine g_goto 7 dX5_noteCosts_132 (by decide) ?_
          refine Go_sub [some (.ref 35), some (.int (nI (a + 1))), none, none, none] (by simp [subL]) (iha (by omega) _ mx (hE.tr (EqO.set (by decide))) (fun j hj => by rw [mset_off (by omega)]; exact h35 j hj) (fun x y hy z => ?_) hmx2.2.2 (mset_at _ _ _ _) (fun x hx => ?_))
          · rw [mset_ne (by decide)]
            exact hcs x y hy (by omega)
          · by_cases z : x = a
            · rw [z]; exact hmx2.2.1
            · exact Nat.le_trans (hown x (by omega)) hmx2.1
        · by_cases z : mc < dlv S (S 12 (hl a) 0) (hl a)
          · rw [if_pos z, if_pos ((nI_ltN (by omega) (by omega)).mpr z)]
          · rw [if_neg z, if_neg (fun y => z ((nI_ltN (by omega) (by omega)).mp y))]
      · have hlb := hp.2.1 b (by omega)
        have hst : ∀ v x, v = cstR S (hl a) (hl b) → Go mG_noteCosts (d + 3) Q 100 [some (.ref 35), some (.int (nI a)), some (.int (nI (S 12 (hl a) 0))), some (.int (nI b)), some (.int (bI x))] [.int v, .int (nI (a * 24 + b)), .ref 38] M' := by
          intro v x hv
          refine g_iast_n dX5_noteCosts_100 (by first | rfl | assumption) (by first | decide | assumption) (by omega) (by omega) ?_
          first | refine g_incn5_3 dX5_noteCosts_101 ki_1 (by decide) rfl ?_ | refine g_incg5_3 (nI 1) dX5_noteCosts_101 ki_1 (by decide) rfl ?_
          refine g_goto 37 dX5_noteCosts_104 (by decide) ?_
          refine Go_sub [some (.ref 35), some (.int (nI a)), some (.int (nI (S 12 (hl a) 0))), some (.int (nI (b + 1))), none] (by simp [subL]) (ihb (by omega) _ (hE.tr (EqO.set (by decide))) (fun j hj => by rw [mset_ne (by decide)]; exact h35 j hj) (fun x y hy z => ?_) (by rw [mset_ne (by decide)]; exact h7))
          by_cases e : x = a ∧ y = b
          · obtain ⟨rfl, rfl⟩ := e
            rw [mset_at]
            exact hv
          · rw [mset_off (by omega)]
            exact hcs x y hy (by omega)
        refine g_iload_n dX5_noteCosts_45 rfl ?_
        refine g_bipush (nI 24) dX5_noteCosts_46 kb_24 ?_
        refine g_icmp_ge_n 107 dX5_noteCosts_48 (by decide) (by omega) (by omega) (fun c48 => ?_) (fun c48 => ?_)
        · exact absurd hw (by omega)
        · refine g_aload_n dX5_noteCosts_51 rfl ?_
          refine g_getr (j := 0) dX5_noteCosts_52 gc5 rfl (by decide) rfl (by decide) fl_G_27 ?_
          refine g_iload_n dX5_noteCosts_55 rfl ?_
          refine g_aload_n dX5_noteCosts_56 rfl ?_
          refine g_getr (j := 1) dX5_noteCosts_57 gc5 rfl (by decide) rfl (by decide) fl_G_9 ?_
          refine g_iload_n dX5_noteCosts_60 rfl ?_
          refine g_iald_n dX5_noteCosts_61 (by first | rfl | assumption) (by first | decide | assumption) (by omega) (by omega) ?_
          try simp (disch := omega) only [h6, h36, h7]
          refine g_call2 dX5_noteCosts_62 clB_mayHold ml_G_71 gc0 rfl rfl (by decide) (Nat.le_of_ble_eq_true rfl) ?_
          refine SB_mayHold hB' (by omega) (by omega) ?_
          refine g_ist5_4 dX5_noteCosts_65 (by decide) rfl ?_
          refine g_aload_n dX5_noteCosts_67 rfl ?_
          refine g_getr (j := 3) dX5_noteCosts_68 gc5 rfl (by decide) rfl (by decide) fl_G_18 ?_
          refine g_iload_n dX5_noteCosts_71 rfl ?_
          refine g_bipush (nI 24) dX5_noteCosts_72 kb_24 ?_
          first | refine g_imul_n dX5_noteCosts_74 ?_ | refine g_imul dX5_noteCosts_74 ?_
          refine g_iload_n dX5_noteCosts_75 rfl ?_
          first | refine g_iadd_n dX5_noteCosts_76 ?_ | refine g_iadd dX5_noteCosts_76 ?_
          refine g_iload dX5_noteCosts_77 rfl ?_
          refine g_if_eq_b 99 dX5_noteCosts_79 (by decide) (fun c79 => ?_) (fun c79 => ?_)
          · refine g_iconst ((-1)) dX5_noteCosts_99 ki_m1 ?_
            exact hst (-1) _ (by unfold cstR; rw [if_neg (by rw [c79]; decide)])
          · refine g_aload_n dX5_noteCosts_82 rfl ?_
            refine g_getr (j := 0) dX5_noteCosts_83 gc5 rfl (by decide) rfl (by decide) fl_G_27 ?_
            refine g_iload_n dX5_noteCosts_86 rfl ?_
            refine g_aload_n dX5_noteCosts_87 rfl ?_
            refine g_getr (j := 1) dX5_noteCosts_88 gc5 rfl (by decide) rfl (by decide) fl_G_9 ?_
            refine g_iload_n dX5_noteCosts_91 rfl ?_
            refine g_iald_n dX5_noteCosts_92 (by first | rfl | assumption) (by first | decide | assumption) (by omega) (by omega) ?_
            try simp (disch := omega) only [h36]
            refine g_call2 dX5_noteCosts_93 clB_dislikeOf ml_G_75 gc0 rfl rfl (by decide) (Nat.le_of_ble_eq_true rfl) ?_
            rw [← hv_p (p := S 12 (hl a) 0) h8]
            refine SB_dislikeOf hB' (by omega) (by omega) ?_
            rw [hv_p (p := S 12 (hl a) 0) h8]
            refine g_goto 100 dX5_noteCosts_96 (by decide) ?_
            exact hst _ _ (by unfold cstR; rw [if_pos c79])
