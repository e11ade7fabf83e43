/-! judge, roster in the reference, both -/
/-- told from the last KIND on, of W's first that isn't 0 -/
def tlC (W : Nat → Int32) : Nat → Int32
  | 0 => -5
  | j + 1 => if W (3 - j) < 0 then nI (200 + (3 - j)) else if 0 < W (3 - j) then nI (300 + (3 - j)) else tlC W j
def tlO (B : Nat → Bool) (T : Int32) : Nat → Int32
  | 0 => T
  | j + 1 => if B (3 - j) = true then nI (100 + (3 - j)) else tlO B T j
theorem tlC_eq (W : Nat → Int32) : tlC W 4 = if fstN (fun k => !(W k == nI 0)) 4 = 4 then -5 else if W (fstN (fun k => !(W k == nI 0)) 4) < 0 then nI (200 + fstN (fun k => !(W k == nI 0)) 4) else nI (300 + fstN (fun k => !(W k == nI 0)) 4) := by
  have h0 : ∀ k, (!(W k == nI 0)) = false → ¬ W k < 0 ∧ ¬ 0 < W k := fun k hk => by
    have hk : W k = nI 0 := by simpa using hk
    rw [hk]
    decide
  have h1 : ∀ k, (!(W k == nI 0)) = true → ¬ W k < 0 → 0 < W k := fun k hk hn => by
    have hk : ¬ W k = nI 0 := by simpa using hk
    rw [Int32.lt_iff_toInt_lt] at hn ⊢
    have h0 : (0 : Int32).toInt = 0 := by decide
    have h2 : (W k).toInt ≠ 0 := fun z => hk (Int32.toInt_inj.mp (by rw [z]; decide))
    omega
  by_cases c0 : (!(W 0 == nI 0)) = true
  · rw [fstN_hit (i := 0) (fun j hj => absurd hj (by omega)) c0 (by omega), if_neg (by omega)]
    show (if W 0 < 0 then _ else if 0 < W 0 then _ else _) = _
    by_cases z : W 0 < 0
    · rw [if_pos z, if_pos z]
    · rw [if_neg z, if_neg z, if_pos (h1 0 c0 z)]
  · have c0 := Bool.eq_false_iff.mpr c0
    rw [show tlC W 4 = tlC W 3 from by
      show (if W 0 < 0 then _ else if 0 < W 0 then _ else tlC W 3) = _
      rw [if_neg (h0 0 c0).1, if_neg (h0 0 c0).2]]
    by_cases c1 : (!(W 1 == nI 0)) = true
    · rw [fstN_hit (i := 1) (fun j hj => by rw [show j = 0 by omega]; exact c0) c1 (by omega), if_neg (by omega)]
      show (if W 1 < 0 then _ else if 0 < W 1 then _ else _) = _
      by_cases z : W 1 < 0
      · rw [if_pos z, if_pos z]
      · rw [if_neg z, if_neg z, if_pos (h1 1 c1 z)]
    · have c1 := Bool.eq_false_iff.mpr c1
      rw [show tlC W 3 = tlC W 2 from by
        show (if W 1 < 0 then _ else if 0 < W 1 then _ else tlC W 2) = _
        rw [if_neg (h0 1 c1).1, if_neg (h0 1 c1).2]]
      by_cases c2 : (!(W 2 == nI 0)) = true
      · rw [fstN_hit (i := 2) (fun j hj => by
          rcases (show j = 0 ∨ j = 1 by omega) with e | e
          · rw [e]; exact c0
          · rw [e]; exact c1) c2 (by omega), if_neg (by omega)]
        show (if W 2 < 0 then _ else if 0 < W 2 then _ else _) = _
        by_cases z : W 2 < 0
        · rw [if_pos z, if_pos z]
        · rw [if_neg z, if_neg z, if_pos (h1 2 c2 z)]
      · have c2 := Bool.eq_false_iff.mpr c2
        rw [show tlC W 2 = tlC W 1 from by
          show (if W 2 < 0 then _ else if 0 < W 2 then _ else tlC W 1) = _
          rw [if_neg (h0 2 c2).1, if_neg (h0 2 c2).2]]
        by_cases c3 : (!(W 3 == nI 0)) = true
        · rw [fstN_hit (i := 3) (fun j hj => by
            rcases (show j = 0 ∨ j = 1 ∨ j = 2 by omega) with e | e | e
            · rw [e]; exact c0
            · rw [e]; exact c1
            · rw [e]; exact c2) c3 (by omega), if_neg (by omega)]
          show (if W 3 < 0 then _ else if 0 < W 3 then _ else _) = _
          by_cases z : W 3 < 0
          · rw [if_pos z, if_pos z]
          · rw [if_neg z, if_neg z, if_pos (h1 3 c3 z)]
        · have c3 := Bool.eq_false_iff.mpr c3
          rw [fstN_eq (i := 4) (fun j hj => by
            rcases (show j = 0 ∨ j = 1 ∨ j = 2 ∨ j = 3 by omega) with e | e | e | e
            · rw [e]; exact c0
            · rw [e]; exact c1
            · rw [e]; exact c2
            · rw [e]; exact c3) (Nat.le_refl 4), if_pos rfl]
          show (if W 3 < 0 then _ else if 0 < W 3 then _ else (-5 : Int32)) = _
          rw [if_neg (h0 3 c3).1, if_neg (h0 3 c3).2]
theorem tlO_eq (B : Nat → Bool) (T : Int32) : tlO B T 4 = if fstN B 4 = 4 then T else nI (100 + fstN B 4) := by
  by_cases c0 : B 0 = true
  · rw [fstN_hit (i := 0) (fun j hj => absurd hj (by omega)) c0 (by omega), if_neg (by omega)]
    show (if B 0 = true then _ else _) = _
    rw [if_pos c0]
  · have d0 := Bool.eq_false_iff.mpr c0
    rw [show tlO B T 4 = tlO B T 3 from by
      show (if B 0 = true then _ else tlO B T 3) = _
      rw [if_neg c0]]
    by_cases c1 : B 1 = true
    · rw [fstN_hit (i := 1) (fun j hj => by rw [show j = 0 by omega]; exact d0) c1 (by omega), if_neg (by omega)]
      show (if B 1 = true then _ else _) = _
      rw [if_pos c1]
    · have d1 := Bool.eq_false_iff.mpr c1
      rw [show tlO B T 3 = tlO B T 2 from by
        show (if B 1 = true then _ else tlO B T 2) = _
        rw [if_neg c1]]
      by_cases c2 : B 2 = true
      · rw [fstN_hit (i := 2) (fun j hj => by
          rcases (show j = 0 ∨ j = 1 by omega) with e | e
          · rw [e]; exact d0
          · rw [e]; exact d1) c2 (by omega), if_neg (by omega)]
        show (if B 2 = true then _ else _) = _
        rw [if_pos c2]
      · have d2 := Bool.eq_false_iff.mpr c2
        rw [show tlO B T 2 = tlO B T 1 from by
          show (if B 2 = true then _ else tlO B T 1) = _
          rw [if_neg c2]]
        by_cases c3 : B 3 = true
        · rw [fstN_hit (i := 3) (fun j hj => by
            rcases (show j = 0 ∨ j = 1 ∨ j = 2 by omega) with e | e | e
            · rw [e]; exact d0
            · rw [e]; exact d1
            · rw [e]; exact d2) c3 (by omega), if_neg (by omega)]
          show (if B 3 = true then _ else _) = _
          rw [if_pos c3]
        · have d3 := Bool.eq_false_iff.mpr c3
          rw [fstN_eq (i := 4) (fun j hj => by
            rcases (show j = 0 ∨ j = 1 ∨ j = 2 ∨ j = 3 by omega) with e | e | e | e
            · rw [e]; exact d0
            · rw [e]; exact d1
            · rw [e]; exact d2
            · rw [e]; exact d3) (Nat.le_refl 4), if_pos rfl]
          show (if B 3 = true then _ else T) = _
          rw [if_neg c3]
/-- a counter that goes down to -1 -/
def dn (j : Nat) : Int32 := if j < 4 then nI (3 - j) else -1
theorem SM_judged {d : Nat} {M : Mm} {S : BS} {Q : Po} {f : Nat → Nat} (hM : MK (M 58) S) (h62 : ∀ j, j < S 1 0 0 → M 62 j = nI (sd S j)) (h71 : ∀ e, e < S 1 0 0 → M 71 e = hv (f e)) (h72 : ∀ e, e < S 1 0 0 → M 72 e = hv (S 12 e 0)) (hf8 : ∀ e, f e ≤ 8) (h : ∀ M', EqQ [58, 66, 73] M M' → MK (M' 58) S → Q M' (some (.int (if barI S f = S 1 0 0 then jdV S f else barV S f)))) : Call (d + 7) mM_judged [.ref 57] M Q := by
  have hW := hM.wf
  have hw := hW.nd
  have hv1 := fun k (hk : k < 4) => vecV_le hW f hk (n := S 0 0 0) (Nat.le_refl _)
  have hv2 := fun k (hk : k < 4) => vecV_le hW (hoF S) hk (n := S 0 0 0) (Nat.le_refl _)
  have e1 : hoS S f (S 1 0 0) 1 0 0 = S 1 0 0 := by rw [hoS_oth (by decide)]
  refine Call_of (m := mM_judged) [some (.ref 57), none, none, none, none] rfl (fun G => Nat.le_of_ble_eq_true rfl) (fun G => rfl) ?_
  refine g_aload_n dX10_judged_0 rfl ?_
  refine g_call0 dX10_judged_1 clM_firstBarred ml_M_334 gc10 rfl rfl (by decide) (Nat.le_of_ble_eq_true rfl) ?_
  refine SM_firstBarred hM h62 h71 hf8 ?_
  by_cases hb : barI S f = S 1 0 0
  · rw [if_pos hb] at h
    rw [barV, if_pos hb]
    refine g_ist5_1 dX10_judged_4 (by decide) rfl ?_
    refine g_iload_n dX10_judged_5 rfl ?_
    refine g_if_lt 11 dX10_judged_6 (by decide) (fun c6 => ?_) (fun c6 => ?_)
    · refine g_bipush ((-5)) dX10_judged_11 kb_m5 ?_
      refine g_ist5_2 dX10_judged_13 (by decide) rfl ?_
      refine g_iconst (nI 3) dX10_judged_14 ki_3 ?_
      refine g_ist5_3 dX10_judged_15 (by decide) rfl ?_
      suffices hloop : ∀ i j M', i + j = 4 → EqQ [58, 66, 73] M M' → MKx (M' 58) S f → Go mM_judged (d + 7) Q 16 [some (.ref 57), some (.int (-1)), some (.int (tlC (jdW S f) j)), some (.int (dn j)), none] [] M' by
        exact hloop 4 0 M rfl EqQ.rf (Or.inl hM)
      intro i
      induction i with
      | zero =>
        intro j M' hj hE hx
        obtain rfl : j = 4 := by omega
        have g71 : ∀ e, e < S 1 0 0 → M' 71 e = hv (f e) := fun e he => by rw [hE.row (by decide) (by decide)]; exact h71 e he
        have g72 : ∀ e, e < S 1 0 0 → M' 72 e = hv (S 12 e 0) := fun e he => by rw [hE.row (by decide) (by decide)]; exact h72 e he
        rw [show dn 4 = -1 from rfl]
        refine g_iload_n dX10_judged_16 rfl ?_
        refine g_if_lt 61 dX10_judged_17 (by decide) (fun c17 => ?_) (fun c17 => ?_)
        · skip
          refine g_iconst (nI 3) dX10_judged_61 ki_3 ?_
          refine g_ist5_3 dX10_judged_62 (by decide) rfl ?_
          suffices hloop2 : ∀ i j M', i + j = 4 → EqQ [58, 66, 73] M M' → MKx (M' 58) S f → Go mM_judged (d + 7) Q 63 [some (.ref 57), some (.int (-1)), some (.int (tlO (fun k => decide (heldN S 8 k < heldF S f 8 k)) (tlC (jdW S f) 4) j)), some (.int (dn j)), none] [] M' by
            exact hloop2 4 0 M' rfl hE hx
          clear hE hx g71 g72 M'
          intro i
          induction i with
          | zero =>
            intro j M' hj hE hx
            obtain rfl : j = 4 := by omega
            have g72 : ∀ e, e < S 1 0 0 → M' 72 e = hv (S 12 e 0) := fun e he => by rw [hE.row (by decide) (by decide)]; exact h72 e he
            rw [show dn 4 = -1 from rfl]
            refine g_iload_n dX10_judged_63 rfl ?_
            refine g_if_lt 115 dX10_judged_64 (by decide) (fun c64 => ?_) (fun c64 => ?_)
            · refine g_aload_n dX10_judged_115 rfl ?_
              refine g_aload_n dX10_judged_116 rfl ?_
              refine g_getr (j := 28) dX10_judged_117 gc10 rfl (by decide) rfl (by decide) fl_M_53 ?_
              refine g_call1 dX10_judged_120 clM_becomes ml_M_330 gc10 rfl rfl (by decide) (Nat.le_of_ble_eq_true rfl) ?_
              refine SM_toB hx hW g72 (fun M2 hE2 hM2 => ?_)
              refine g_iload_n dX10_judged_123 rfl ?_
              refine g_ireturn dX10_judged_124 rfl (by first | rfl | exact nar_bI _) ?_
              have h := h M2 (hE.tr ((EqQ.ofO hE2).sub (by decide))) hM2
              rw [tlO_eq, tlC_eq]
              exact h
            · exact absurd (show (-1 : Int32) < 0 from by decide) c64
          | succ i ih =>
            intro j M' hj hE hx
            have hj4 : j < 4 := by omega
            have hdn : dn j = nI (3 - j) := if_pos hj4
            have g71 : ∀ e, e < S 1 0 0 → M' 71 e = hv (f e) := fun e he => by rw [hE.row (by decide) (by decide)]; exact h71 e he
            have g72 : ∀ e, e < S 1 0 0 → M' 72 e = hv (S 12 e 0) := fun e he => by rw [hE.row (by decide) (by decide)]; exact h72 e he
            have ih := fun M' => ih (j + 1) M' (by omega)
            have hdec : nI (3 - j) + -1 = dn (j + 1) := by
              unfold dn
              rcases (show j = 0 ∨ j = 1 ∨ j = 2 ∨ j = 3 by omega) with e | e | e | e <;> subst e <;> decide
            rw [tlO] at ih
            rw [hdn]
            refine g_iload_n dX10_judged_63 rfl ?_
            refine g_if_lt_n 115 dX10_judged_64 (by decide) (by omega) ?_
            refine g_aload_n dX10_judged_67 rfl ?_
            refine g_aload_n dX10_judged_68 rfl ?_
            refine g_getr (j := 28) dX10_judged_69 gc10 rfl (by decide) rfl (by decide) fl_M_53 ?_
            refine g_call1 dX10_judged_72 clM_becomes ml_M_330 gc10 rfl rfl (by decide) (Nat.le_of_ble_eq_true rfl) ?_
            refine SM_toB hx hW g72 (fun M2 hE2 hM2 => ?_)
            have hl2 : heldN S 8 (3 - j) ≤ S 1 0 0 := heldF_le S _ 8 (3 - j)
            have hl1 := heldF_le S f 8 (3 - j)
            refine g_aload_n dX10_judged_75 rfl ?_
            refine g_iload_n dX10_judged_76 rfl ?_
            refine g_call1 dX10_judged_77 clM_openIn ml_M_340 gc10 rfl rfl (by decide) (Nat.le_of_ble_eq_true rfl) ?_
            refine SM_openIn hM2 (by omega) ?_
            refine g_ist5_4 dX10_judged_80 (by decide) rfl ?_
            refine g_aload_n dX10_judged_82 rfl ?_
            refine g_aload_n dX10_judged_83 rfl ?_
            refine g_getr (j := 27) dX10_judged_84 gc10 rfl (by decide) rfl (by decide) fl_M_50 ?_
            refine g_call1 dX10_judged_87 clM_becomes ml_M_330 gc10 rfl rfl (by decide) (Nat.le_of_ble_eq_true rfl) ?_
            refine SM_toR (Or.inl hM2) (fun e he => by rw [hE2 71 (by decide)]; exact g71 e he) hf8 (fun M3 hE3 hM3 => ?_)
            refine g_aload_n dX10_judged_90 rfl ?_
            refine g_iload_n dX10_judged_91 rfl ?_
            refine g_call1 dX10_judged_92 clM_openIn ml_M_340 gc10 rfl rfl (by decide) (Nat.le_of_ble_eq_true rfl) ?_
            refine SM_openIn hM3 (by omega) ?_
            rw [held_hoS]
            have ih := ih M3 (hE.tr (((EqQ.ofO hE2).sub (by decide)).tr ((EqQ.ofO hE3).sub (by decide)))) (Or.inr hM3)
            refine g_iload dX10_judged_95 rfl ?_
            refine g_icmp_le_n 107 dX10_judged_97 (by decide) (by omega) (by omega) (fun c97 => ?_) (fun c97 => ?_)
            · rw [if_neg (by rw [decide_eq_true_eq]; omega)] at ih
              refine g_iload_n dX10_judged_107 rfl ?_
              refine g_ist5_2 dX10_judged_108 (by decide) rfl ?_
              refine g_incg5_3 (-1) dX10_judged_109 ki_m1 (by decide) rfl ?_
              rw [hdec]
              refine g_goto 63 dX10_judged_112 (by decide) ?_
              exact Go_sub [some (.ref 57), some (.int (-1)), some (.int (tlO (fun k => decide (heldN S 8 k < heldF S f 8 k)) (tlC (jdW S f) 4) j)), some (.int (dn (j + 1))), none] (by simp [subL]) ih
            · rw [if_pos (by rw [decide_eq_true_eq]; omega)] at ih
              refine g_bipush (nI 100) dX10_judged_100 kb_100 ?_
              refine g_iload_n dX10_judged_102 rfl ?_
              first | refine g_iadd_n dX10_judged_103 ?_ | refine g_iadd dX10_judged_103 ?_
              refine g_goto 108 dX10_judged_104 (by decide) ?_
              refine g_ist5_2 dX10_judged_108 (by decide) rfl ?_
              refine g_incg5_3 (-1) dX10_judged_109 ki_m1 (by decide) rfl ?_
              rw [hdec]
              refine g_goto 63 dX10_judged_112 (by decide) ?_
              exact Go_sub [some (.ref 57), some (.int (-1)), some (.int (nI (100 + (3 - j)))), some (.int (dn (j + 1))), none] (by simp [subL]) ih
        · exact absurd (show (-1 : Int32) < 0 from by decide) c17
      | succ i ih =>
        intro j M' hj hE hx
        have hj4 : j < 4 := by omega
        have hdn : dn j = nI (3 - j) := if_pos hj4
        have g71 : ∀ e, e < S 1 0 0 → M' 71 e = hv (f e) := fun e he => by rw [hE.row (by decide) (by decide)]; exact h71 e he
        have g72 : ∀ e, e < S 1 0 0 → M' 72 e = hv (S 12 e 0) := fun e he => by rw [hE.row (by decide) (by decide)]; exact h72 e he
        have ih := fun M' => ih (j + 1) M' (by omega)
        have hdec : nI (3 - j) + -1 = dn (j + 1) := by
          unfold dn
          rcases (show j = 0 ∨ j = 1 ∨ j = 2 ∨ j = 3 by omega) with e | e | e | e <;> subst e <;> decide
        rw [tlC] at ih
        rw [hdn]
        refine g_iload_n dX10_judged_16 rfl ?_
        refine g_if_lt_n 61 dX10_judged_17 (by decide) (by omega) ?_
        refine g_aload_n dX10_judged_20 rfl ?_
        refine g_iload_n dX10_judged_21 rfl ?_
        refine g_call1 dX10_judged_22 clM_compares ml_M_337 gc10 rfl rfl (by decide) (Nat.le_of_ble_eq_true rfl) ?_
        refine SM_compares hx hW g71 g72 hf8 (by omega) (fun M2 hE2 hM2 => ?_)
        have ih := ih M2 (hE.tr hE2) (Or.inr hM2)
        obtain ⟨x1, x2, x3⟩ := cmp_DV (hv1 (3 - j) (by omega)) (hv2 (3 - j) (by omega))
        unfold jdW at ih
        generalize cmpV (vecV S f (3 - j) (S 0 0 0)) (vecV S (hoF S) (3 - j) (S 0 0 0)) (cnt (hr S) (S 0 0 0)) = V at ih x1 x2 x3
        generalize cmpD (vecV S f (3 - j) (S 0 0 0)) (vecV S (hoF S) (3 - j) (S 0 0 0)) (cnt (hr S) (S 0 0 0)) = D at x1 x2 x3 ⊢
        have hgo : ∀ (T : Int32) (w : Option Value), Go mM_judged (d + 7) Q 16 [some (.ref 57), some (.int (-1)), some (.int T), some (.int (dn (j + 1))), none] [] M2 → Go mM_judged (d + 7) Q 55 [some (.ref 57), some (.int (-1)), some (.int T), some (.int (nI (3 - j))), some (.int D)] [] M2 := by
          intro T w hg
          refine g_incg5_3 (-1) dX10_judged_55 ki_m1 (by decide) rfl ?_
          rw [hdec]
          refine g_goto 16 dX10_judged_58 (by decide) ?_
          exact Go_sub [some (.ref 57), some (.int (-1)), some (.int T), some (.int (dn (j + 1))), none] (by simp [subL]) hg
        refine g_ist5_4 dX10_judged_25 (by decide) rfl ?_
        refine g_iload dX10_judged_27 rfl ?_
        refine g_if_ge 40 dX10_judged_29 (by decide) (fun c29 => ?_) (fun c29 => ?_)
        · have c29 : ¬ D < 0 := Int32.not_lt.mpr c29
          rw [if_neg (fun z => c29 (x1.mpr z))] at ih
          refine g_iload dX10_judged_40 rfl ?_
          refine g_if_le 53 dX10_judged_42 (by decide) (fun c42 => ?_) (fun c42 => ?_)
          · rw [if_neg (fun z => Int32.not_lt.mpr (x2.mp c42) z)] at ih
            refine g_iload_n dX10_judged_53 rfl ?_
            refine g_ist5_2 dX10_judged_54 (by decide) rfl ?_
            exact hgo _ none ih
          · rw [if_pos (Int32.not_le.mp (fun z => c42 (x2.mpr z)))] at ih
            refine g_sipush (nI 300) dX10_judged_45 ks_300 ?_
            refine g_iload_n dX10_judged_48 rfl ?_
            first | refine g_iadd_n dX10_judged_49 ?_ | refine g_iadd dX10_judged_49 ?_
            refine g_goto 54 dX10_judged_50 (by decide) ?_
            refine g_ist5_2 dX10_judged_54 (by decide) rfl ?_
            exact hgo _ none ih
        · have c29 : D < 0 := Int32.not_le.mp c29
          rw [if_pos (x1.mp c29)] at ih
          refine g_sipush (nI 200) dX10_judged_32 ks_200 ?_
          refine g_iload_n dX10_judged_35 rfl ?_
          first | refine g_iadd_n dX10_judged_36 ?_ | refine g_iadd dX10_judged_36 ?_
          refine g_goto 54 dX10_judged_37 (by decide) ?_
          refine g_ist5_2 dX10_judged_54 (by decide) rfl ?_
          exact hgo _ none ih
    · exact absurd (show (-1 : Int32) < 0 from by decide) c6
  · rw [if_neg hb] at h
    have hbl : barI S f ≤ S 1 0 0 := fstN_le _ _
    have hsd := sd_lt (S := S) (k := barI S f) (by omega)
    have hbe : barV S f = nI (sd S (barI S f)) := by rw [barV, if_neg hb]
    have h := h M EqQ.rf hM
    rw [hbe] at h ⊢
    refine g_ist5_1 dX10_judged_4 (by decide) rfl ?_
    refine g_iload_n dX10_judged_5 rfl ?_
    refine g_if_lt_n 11 dX10_judged_6 (by decide) (by omega) ?_
    refine g_iload_n dX10_judged_9 rfl ?_
    refine g_ireturn dX10_judged_10 rfl (by first | rfl | exact nar_bI _) ?_
    exact h
