/-! pick, openAll in the class -/
def vwF (a k q x w : Nat) : Nat := [a, k, if q = 8 then 10 else q, if q = 8 then 0 else 1, if q = 8 then 0 else x, a / 7].getD w 0
def vwC (S : BS) (e : Nat) : Nat → Int32 := fun w => nI (vwF (S 10 e 0) (S 11 e 0) (S 12 e 0) (dlv S (S 12 e 0) e) w)
theorem dlv_8 {S : BS} (hW : WF S) (e : Nat) : dlv S 8 e = 0 := by
  have := hW.np
  unfold dlv
  rw [if_neg (by omega)]
theorem SB_dislikeM {d : Nat} {M : Mm} {S : BS} {Q : Po} (hB : BK M S) (h : Q M (some (.int (nI 0)))) : Call (d + 2) mB_dislikeOf [.ref 1, .int (-1), .int (-1)] M Q := by
  refine Call_of (m := mB_dislikeOf) [some (.ref 1), some (.int (-1)), some (.int (-1))] rfl (fun G => Nat.le_of_ble_eq_true rfl) (fun G => rfl) ?_
  refine g_aload_n dX0_dislikeOf_0 rfl ?_
  refine g_iload_n dX0_dislikeOf_1 rfl ?_
  refine g_call1 dX0_dislikeOf_2 clB_isOne ml_B_64 gc0 rfl rfl (by decide) (Nat.le_of_ble_eq_true rfl) ?_
  refine SB_isOne hB _ ?_
  rw [inR_m1]
  refine g_if_eq_ff 30 dX0_dislikeOf_5 (by decide) ?_
  refine g_iconst (nI 0) dX0_dislikeOf_30 ki_0 ?_
  refine g_ireturn dX0_dislikeOf_31 rfl (by first | rfl | exact nar_bI _) ?_
  exact h
theorem SC_noteValues {d : Nat} {M : Mm} {S : BS} {Q : Po} {e : Nat} (hB : BK M S) (he : e < S 1 0 0) (h : ∀ M', EqO [51] M M' → (∀ w, w < 6 → M' 51 w = vwC S e w) → Q M' none) : Call (d + 3) mC_noteValues [.ref 50, .int (nI e)] M Q := by
  have hw := hB.wf.nd
  have hdk := hB.wf.dk (d := e) (by omega)
  have hB' : ∀ M', EqO [51] M M' → BK M' S := fun M' hE => hB.eqO hE (by decide)
  have hfin : ∀ M' : Mm, EqO [51] M M' → M' 51 0 = nI (S 10 e 0) → M' 51 1 = nI (S 11 e 0) → M' 51 2 = nI (if S 12 e 0 = 8 then 10 else S 12 e 0) → M' 51 3 = nI (if S 12 e 0 = 8 then 0 else 1) → M' 51 4 = nI (dlv S (S 12 e 0) e) → M' 51 5 = nI (S 10 e 0 / 7) → Q M' none := by
    intro M' hE v0 v1 v2 v3 v4 v5
    refine h M' hE (fun w hw => ?_)
    unfold vwC vwF
    obtain rfl | rfl | rfl | rfl | rfl | rfl : w = 0 ∨ w = 1 ∨ w = 2 ∨ w = 3 ∨ w = 4 ∨ w = 5 := by omega
    · exact v0
    · exact v1
    · exact v2
    · exact v3
    · rw [v4]
      by_cases z : S 12 e 0 = 8
      · rw [z, dlv_8 hB.wf]; rfl
      · show _ = nI (if S 12 e 0 = 8 then 0 else dlv S (S 12 e 0) e)
        rw [if_neg z]
    · exact v5
  clear h
  refine Call_of (m := mC_noteValues) [some (.ref 50), some (.int (nI e)), none] rfl (fun G => Nat.le_of_ble_eq_true rfl) (fun G => rfl) ?_
  refine g_aload_n dX1_noteValues_0 rfl ?_
  refine g_getr (j := 0) dX1_noteValues_1 gc1 rfl (by decide) rfl (by decide) fl_C_15 ?_
  refine g_iload_n dX1_noteValues_4 rfl ?_
  refine g_call1 dX1_noteValues_5 clB_holderOf ml_C_49 gc0 rfl rfl (by decide) (Nat.le_of_ble_eq_true rfl) ?_
  refine SB_holderOf hB he ?_
  refine g_ist3_2 dX1_noteValues_8 (by decide) rfl ?_
  refine g_aload_n dX1_noteValues_9 rfl ?_
  refine g_getr (j := 2) dX1_noteValues_10 gc1 rfl (by decide) rfl (by decide) fl_C_11 ?_
  refine g_iconst (nI 0) dX1_noteValues_13 ki_0 ?_
  refine g_aload_n dX1_noteValues_14 rfl ?_
  refine g_getr (j := 0) dX1_noteValues_15 gc1 rfl (by decide) rfl (by decide) fl_C_15 ?_
  refine g_iload_n dX1_noteValues_18 rfl ?_
  refine g_call1 dX1_noteValues_19 clB_dayOf ml_C_53 gc0 rfl rfl (by decide) (Nat.le_of_ble_eq_true rfl) ?_
  refine SB_dayOf hB he ?_
  refine g_iast_n dX1_noteValues_22 (by first | rfl | assumption) (by first | decide | assumption) (by omega) (by omega) ?_
  refine g_aload_n dX1_noteValues_23 rfl ?_
  refine g_getr (j := 2) dX1_noteValues_24 gc1 rfl (by decide) rfl (by decide) fl_C_11 ?_
  refine g_iconst (nI 1) dX1_noteValues_27 ki_1 ?_
  refine g_aload_n dX1_noteValues_28 rfl ?_
  refine g_getr (j := 0) dX1_noteValues_29 gc1 rfl (by decide) rfl (by decide) fl_C_15 ?_
  refine g_iload_n dX1_noteValues_32 rfl ?_
  refine g_call1 dX1_noteValues_33 clB_kindOf ml_C_56 gc0 rfl rfl (by decide) (Nat.le_of_ble_eq_true rfl) ?_
  refine SB_kindOf (hB' _ (EqO.set (by decide))) he ?_
  have hrest : ∀ M4 : Mm, EqO [51] M M4 → M4 51 0 = nI (S 10 e 0) → M4 51 1 = nI (S 11 e 0) → M4 51 2 = nI (if S 12 e 0 = 8 then 10 else S 12 e 0) → M4 51 3 = nI (if S 12 e 0 = 8 then 0 else 1) → Go mC_noteValues (d + 3) Q 70 [some (.ref 50), some (.int (nI e)), some (.int (hv (S 12 e 0)))] [] M4 := by
    intro M4 hE4 v0 v1 v2 v3
    refine g_aload_n dX1_noteValues_70 rfl ?_
    refine g_getr (j := 2) dX1_noteValues_71 gc1 rfl (by decide) rfl (by decide) fl_C_11 ?_
    refine g_iconst (nI 4) dX1_noteValues_74 ki_4 ?_
    refine g_aload_n dX1_noteValues_75 rfl ?_
    refine g_getr (j := 0) dX1_noteValues_76 gc1 rfl (by decide) rfl (by decide) fl_C_15 ?_
    refine g_iload_n dX1_noteValues_79 rfl ?_
    refine g_iload_n dX1_noteValues_80 rfl ?_
    refine g_call2 dX1_noteValues_81 clB_dislikeOf ml_C_59 gc0 rfl rfl (by decide) (Nat.le_of_ble_eq_true rfl) ?_
    refine SB_dislikeOf (hB' M4 hE4) hdk.2.2 he ?_
    refine g_iast_n dX1_noteValues_84 (by first | rfl | assumption) (by first | decide | assumption) (by omega) (by omega) ?_
    refine g_aload_n dX1_noteValues_85 rfl ?_
    refine g_getr (j := 2) dX1_noteValues_86 gc1 rfl (by decide) rfl (by decide) fl_C_11 ?_
    refine g_iconst (nI 5) dX1_noteValues_89 ki_5 ?_
    refine g_aload_n dX1_noteValues_90 rfl ?_
    refine g_getr (j := 0) dX1_noteValues_91 gc1 rfl (by decide) rfl (by decide) fl_C_15 ?_
    refine g_iload_n dX1_noteValues_94 rfl ?_
    refine g_call1 dX1_noteValues_95 clB_dayOf ml_C_53 gc0 rfl rfl (by decide) (Nat.le_of_ble_eq_true rfl) ?_
    refine SB_dayOf (hB' _ (hE4.tr (EqO.set (by decide)))) he ?_
    refine g_bipush (nI 7) dX1_noteValues_98 kb_7 ?_
    refine g_idiv_n dX1_noteValues_100 (by omega) (by omega) (by omega) ?_
    refine g_iast_n dX1_noteValues_101 (by first | rfl | assumption) (by first | decide | assumption) (by omega) (by omega) ?_
    refine g_return dX1_noteValues_102 rfl ?_
    refine hfin _ (hE4.tr ((EqO.set (by decide)).tr (EqO.set (by decide)))) ?_ ?_ ?_ ?_ ?_ ?_
    · rw [mset_off (by omega), mset_off (by omega)]; exact v0
    · rw [mset_off (by omega), mset_off (by omega)]; exact v1
    · rw [mset_off (by omega), mset_off (by omega)]; exact v2
    · rw [mset_off (by omega), mset_off (by omega)]; exact v3
    · rw [mset_off (by omega), mset_at]
    · rw [mset_at]
  refine g_iast_n dX1_noteValues_36 (by first | rfl | assumption) (by first | decide | assumption) (by omega) (by omega) ?_
  refine g_aload_n dX1_noteValues_37 rfl ?_
  refine g_getr (j := 2) dX1_noteValues_38 gc1 rfl (by decide) rfl (by decide) fl_C_11 ?_
  refine g_iconst (nI 2) dX1_noteValues_41 ki_2 ?_
  refine g_iload_n dX1_noteValues_42 rfl ?_
  refine g_iconst ((-1)) dX1_noteValues_43 ki_m1 ?_
  refine g_icmp_ne 52 dX1_noteValues_44 (by decide) (fun c44 => ?_) (fun c44 => ?_)
  · rw [hv_open _ hdk.2.2] at c44
    refine g_iload_n dX1_noteValues_52 rfl ?_
    refine g_iast_n dX1_noteValues_53 (by first | rfl | assumption) (by first | decide | assumption) (by omega) (by omega) ?_
    refine g_aload_n dX1_noteValues_54 rfl ?_
    refine g_getr (j := 2) dX1_noteValues_55 gc1 rfl (by decide) rfl (by decide) fl_C_11 ?_
    refine g_iconst (nI 3) dX1_noteValues_58 ki_3 ?_
    refine g_iload_n dX1_noteValues_59 rfl ?_
    refine g_iconst ((-1)) dX1_noteValues_60 ki_m1 ?_
    refine g_icmp_ne 68 dX1_noteValues_61 (by decide) (fun c61 => ?_) (fun c61 => ?_)
    · rw [hv_open _ hdk.2.2] at c61
      refine g_iconst (nI 1) dX1_noteValues_68 ki_1 ?_
      refine g_iast_n dX1_noteValues_69 (by first | rfl | assumption) (by first | decide | assumption) (by omega) (by omega) ?_
      rw [hv_p (p := S 12 e 0) (by omega)]
      rw [hv_p (p := S 12 e 0) (by omega)] at hrest
      refine hrest _ (((EqO.set (by decide)).tr (EqO.set (by decide))).tr ((EqO.set (by decide)).tr (EqO.set (by decide)))) ?_ ?_ ?_ ?_
      · rw [mset_off (by omega), mset_off (by omega), mset_off (by omega), mset_at]
      · rw [mset_off (by omega), mset_off (by omega), mset_at]
      · rw [mset_off (by omega), mset_at, if_neg c44]
      · rw [mset_at, if_neg c44]
    · rw [hv_open _ hdk.2.2] at c61
      exact absurd c61 c44
  · rw [hv_open _ hdk.2.2] at c44
    refine g_bipush (nI 10) dX1_noteValues_47 kb_10 ?_
    refine g_goto 53 dX1_noteValues_49 (by decide) ?_
    refine g_iast_n dX1_noteValues_53 (by first | rfl | assumption) (by first | decide | assumption) (by omega) (by omega) ?_
    refine g_aload_n dX1_noteValues_54 rfl ?_
    refine g_getr (j := 2) dX1_noteValues_55 gc1 rfl (by decide) rfl (by decide) fl_C_11 ?_
    refine g_iconst (nI 3) dX1_noteValues_58 ki_3 ?_
    refine g_iload_n dX1_noteValues_59 rfl ?_
    refine g_iconst ((-1)) dX1_noteValues_60 ki_m1 ?_
    refine g_icmp_ne 68 dX1_noteValues_61 (by decide) (fun c61 => ?_) (fun c61 => ?_)
    · rw [hv_open _ hdk.2.2] at c61
      exact absurd c44 c61
    · refine g_iconst (nI 0) dX1_noteValues_64 ki_0 ?_
      refine g_goto 69 dX1_noteValues_65 (by decide) ?_
      refine g_iast_n dX1_noteValues_69 (by first | rfl | assumption) (by first | decide | assumption) (by omega) (by omega) ?_
      refine hrest _ (((EqO.set (by decide)).tr (EqO.set (by decide))).tr ((EqO.set (by decide)).tr (EqO.set (by decide)))) ?_ ?_ ?_ ?_
      · rw [mset_off (by omega), mset_off (by omega), mset_off (by omega), mset_at]
      · rw [mset_off (by omega), mset_off (by omega), mset_at]
      · rw [mset_off (by omega), mset_at, if_pos c44]
      · rw [mset_at, if_pos c44]
theorem SC_noteNone {d : Nat} {M : Mm} {S : BS} {Q : Po} (hB : BK M S) (h : ∀ M', EqO [51] M M' → Q M' none) : Call (d + 3) mC_noteValues [.ref 50, .int (-1)] M Q := by
  have hB' : ∀ M', EqO [51] M M' → BK M' S := fun M' hE => hB.eqO hE (by decide)
  refine Call_of (m := mC_noteValues) [some (.ref 50), some (.int (-1)), none] rfl (fun G => Nat.le_of_ble_eq_true rfl) (fun G => rfl) ?_
  refine g_aload_n dX1_noteValues_0 rfl ?_
  refine g_getr (j := 0) dX1_noteValues_1 gc1 rfl (by decide) rfl (by decide) fl_C_15 ?_
  refine g_iload_n dX1_noteValues_4 rfl ?_
  refine g_call1 dX1_noteValues_5 clB_holderOf ml_C_49 gc0 rfl rfl (by decide) (Nat.le_of_ble_eq_true rfl) ?_
  refine SB_holderOfF hB (inR_m1 _) ?_
  refine g_ist3_2 dX1_noteValues_8 (by decide) rfl ?_
  refine g_aload_n dX1_noteValues_9 rfl ?_
  refine g_getr (j := 2) dX1_noteValues_10 gc1 rfl (by decide) rfl (by decide) fl_C_11 ?_
  refine g_iconst (nI 0) dX1_noteValues_13 ki_0 ?_
  refine g_aload_n dX1_noteValues_14 rfl ?_
  refine g_getr (j := 0) dX1_noteValues_15 gc1 rfl (by decide) rfl (by decide) fl_C_15 ?_
  refine g_iload_n dX1_noteValues_18 rfl ?_
  refine g_call1 dX1_noteValues_19 clB_dayOf ml_C_53 gc0 rfl rfl (by decide) (Nat.le_of_ble_eq_true rfl) ?_
  refine SB_dayOfF hB (inR_m1 _) ?_
  refine g_iast_n dX1_noteValues_22 (by first | rfl | assumption) (by first | decide | assumption) (by omega) (by omega) ?_
  refine g_aload_n dX1_noteValues_23 rfl ?_
  refine g_getr (j := 2) dX1_noteValues_24 gc1 rfl (by decide) rfl (by decide) fl_C_11 ?_
  refine g_iconst (nI 1) dX1_noteValues_27 ki_1 ?_
  refine g_aload_n dX1_noteValues_28 rfl ?_
  refine g_getr (j := 0) dX1_noteValues_29 gc1 rfl (by decide) rfl (by decide) fl_C_15 ?_
  refine g_iload_n dX1_noteValues_32 rfl ?_
  refine g_call1 dX1_noteValues_33 clB_kindOf ml_C_56 gc0 rfl rfl (by decide) (Nat.le_of_ble_eq_true rfl) ?_
  refine SB_kindOfF (hB' _ (EqO.set (by decide))) (inR_m1 _) ?_
  refine g_iast_n dX1_noteValues_36 (by first | rfl | assumption) (by first | decide | assumption) (by omega) (by omega) ?_
  refine g_aload_n dX1_noteValues_37 rfl ?_
  refine g_getr (j := 2) dX1_noteValues_38 gc1 rfl (by decide) rfl (by decide) fl_C_11 ?_
  refine g_iconst (nI 2) dX1_noteValues_41 ki_2 ?_
  refine g_iload_n dX1_noteValues_42 rfl ?_
  refine g_iconst ((-1)) dX1_noteValues_43 ki_m1 ?_
  refine g_icmp_ne 52 dX1_noteValues_44 (by decide) (fun c44 => ?_) (fun c44 => ?_)
  · exact absurd rfl c44
  · refine g_bipush (nI 10) dX1_noteValues_47 kb_10 ?_
    refine g_goto 53 dX1_noteValues_49 (by decide) ?_
    refine g_iast_n dX1_noteValues_53 (by first | rfl | assumption) (by first | decide | assumption) (by omega) (by omega) ?_
    refine g_aload_n dX1_noteValues_54 rfl ?_
    refine g_getr (j := 2) dX1_noteValues_55 gc1 rfl (by decide) rfl (by decide) fl_C_11 ?_
    refine g_iconst (nI 3) dX1_noteValues_58 ki_3 ?_
    refine g_iload_n dX1_noteValues_59 rfl ?_
    refine g_iconst ((-1)) dX1_noteValues_60 ki_m1 ?_
    refine g_icmp_ne 68 dX1_noteValues_61 (by decide) (fun c61 => ?_) (fun c61 => ?_)
    · exact absurd rfl c61
    · refine g_iconst (nI 0) dX1_noteValues_64 ki_0 ?_
      refine g_goto 69 dX1_noteValues_65 (by decide) ?_
      refine g_iast_n dX1_noteValues_69 (by first | rfl | assumption) (by first | decide | assumption) (by omega) (by omega) ?_
      refine g_aload_n dX1_noteValues_70 rfl ?_
      refine g_getr (j := 2) dX1_noteValues_71 gc1 rfl (by decide) rfl (by decide) fl_C_11 ?_
      refine g_iconst (nI 4) dX1_noteValues_74 ki_4 ?_
      refine g_aload_n dX1_noteValues_75 rfl ?_
      refine g_getr (j := 0) dX1_noteValues_76 gc1 rfl (by decide) rfl (by decide) fl_C_15 ?_
      refine g_iload_n dX1_noteValues_79 rfl ?_
      refine g_iload_n dX1_noteValues_80 rfl ?_
      refine g_call2 dX1_noteValues_81 clB_dislikeOf ml_C_59 gc0 rfl rfl (by decide) (Nat.le_of_ble_eq_true rfl) ?_
      have hE4 : EqO [51] M (mset (mset (mset (mset M 51 0 (-1)) 51 1 (-1)) 51 2 (nI 10)) 51 3 (nI 0)) := ((EqO.set (by decide)).tr (EqO.set (by decide))).tr ((EqO.set (by decide)).tr (EqO.set (by decide)))
      refine SB_dislikeM (hB' _ hE4) ?_
      refine g_iast_n dX1_noteValues_84 (by first | rfl | assumption) (by first | decide | assumption) (by omega) (by omega) ?_
      refine g_aload_n dX1_noteValues_85 rfl ?_
      refine g_getr (j := 2) dX1_noteValues_86 gc1 rfl (by decide) rfl (by decide) fl_C_11 ?_
      refine g_iconst (nI 5) dX1_noteValues_89 ki_5 ?_
      refine g_aload_n dX1_noteValues_90 rfl ?_
      refine g_getr (j := 0) dX1_noteValues_91 gc1 rfl (by decide) rfl (by decide) fl_C_15 ?_
      refine g_iload_n dX1_noteValues_94 rfl ?_
      refine g_call1 dX1_noteValues_95 clB_dayOf ml_C_53 gc0 rfl rfl (by decide) (Nat.le_of_ble_eq_true rfl) ?_
      refine SB_dayOfF (hB' _ (hE4.tr (EqO.set (by decide)))) (inR_m1 _) ?_
      refine g_bipush (nI 7) dX1_noteValues_98 kb_7 ?_
      refine g_idiv dX1_noteValues_100 (by decide) ?_
      refine g_iast_n dX1_noteValues_101 (by first | rfl | assumption) (by first | decide | assumption) (by omega) (by omega) ?_
      refine g_return dX1_noteValues_102 rfl ?_
      exact h _ (hE4.tr ((EqO.set (by decide)).tr (EqO.set (by decide))))
def pkB (c : Nat → Bool) : Nat → Int32
  | 0 => nI 0
  | k + 1 => if c k = true then pkB c k ||| (nI 1 <<< (nI k &&& 31)) else pkB c k
def cdB (S : BS) (n : Nat) (t : Nat → Nat) (e : Nat) : Bool := (coP n t (vwC S e)).2
theorem SC_pickDuties {d : Nat} {n : Nat} {t : Nat → Nat} {M : Mm} {S : BS} {Q : Po} (hB : BK M S) (hT : TPc n t M) (h : ∀ M' v, EqO [41, 51] M M' → TC n t M' (stP n t) → (okB (stP n t) = true → v = pkB (cdB S n t) (S 1 0 0)) → Q M' (some (.int v))) : Call (d + 23) mC_pickDuties [.ref 50] M Q := by
  have hw := hB.wf.nd
  have hTP : ∀ M', EqO [41, 51] M M' → M' 41 1 = M 41 1 → TPc n t M' := fun M' hE h1 => ⟨hT.1, hT.2.1, by rw [h1]; exact hT.2.2.1, fun i hi => by rw [hE 42 (by decide)]; exact hT.2.2.2 i hi⟩
  have hBB : ∀ M', EqO [41, 51] M M' → BK M' S := fun M' hE => hB.eqO hE (by decide)
  refine Call_of (m := mC_pickDuties) [some (.ref 50), none, none, none] rfl (fun G => Nat.le_of_ble_eq_true rfl) (fun G => rfl) ?_
  refine g_iconst (nI 0) dX1_pickDuties_0 ki_0 ?_
  refine g_ist4_1 dX1_pickDuties_1 (by decide) rfl ?_
  refine g_iconst ((-1)) dX1_pickDuties_2 ki_m1 ?_
  refine g_ist4_2 dX1_pickDuties_3 (by decide) rfl ?_
  have hloop : okB (stP n t) = true → ∀ i, i ≤ S 1 0 0 → ∀ M', EqO [41, 51] M M' → TC n t M' (stP n t) → Go mC_pickDuties (d + 23) Q 4 [some (.ref 50), some (.int (pkB (cdB S n t) i)), some (.int (nI i)), none] [] M' := by
    intro hok
    refine loop_up (P := fun i => ∀ M', EqO [41, 51] M M' → TC n t M' (stP n t) → Go mC_pickDuties (d + 23) Q 4 [some (.ref 50), some (.int (pkB (cdB S n t) i)), some (.int (nI i)), none] [] M') (S 1 0 0) ?_
    intro i hi ih M' hE hTs
    have hB' := hBB M' hE
    refine g_iload_n dX1_pickDuties_4 rfl ?_
    refine g_aload_n dX1_pickDuties_5 rfl ?_
    refine g_getr (j := 0) dX1_pickDuties_6 gc1 rfl (by decide) rfl (by decide) fl_C_15 ?_
    refine g_geti (j := 1) dX1_pickDuties_9 gc0 rfl (by decide) rfl (by decide) fl_C_23 ?_
    try simp (disch := omega) only [hB'.nd]
    refine g_icmp_ge_n 78 dX1_pickDuties_12 (by decide) (by omega) (by omega) (fun c12 => ?_) (fun c12 => ?_)
    · refine g_iload_n dX1_pickDuties_78 rfl ?_
      refine g_ireturn dX1_pickDuties_79 rfl (by first | rfl | exact nar_bI _) ?_
      refine h M' _ hE hTs (fun _ => ?_)
      rw [show i = S 1 0 0 by omega]
    · refine g_iload_n dX1_pickDuties_15 rfl ?_
      refine g_bipush (nI 24) dX1_pickDuties_16 kb_24 ?_
      refine g_icmp_ge_n 78 dX1_pickDuties_18 (by decide) (by omega) (by omega) (fun c18 => ?_) (fun c18 => ?_)
      · exact absurd hw (by omega)
      · refine g_aload_n dX1_pickDuties_21 rfl ?_
        refine g_iload_n dX1_pickDuties_22 rfl ?_
        refine g_call1 dX1_pickDuties_23 clC_noteValues ml_C_29 gc1 rfl rfl (by decide) (Nat.le_of_ble_eq_true rfl) ?_
        refine SC_noteValues hB' (by omega) (fun M1 hE1 hv1 => ?_)
        refine g_aload_n dX1_pickDuties_26 rfl ?_
        refine g_getr (j := 1) dX1_pickDuties_27 gc1 rfl (by decide) rfl (by decide) fl_C_19 ?_
        refine g_call0 dX1_pickDuties_30 clT_start ml_C_33 gc7 rfl rfl (by decide) (Nat.le_of_ble_eq_true rfl) ?_
        refine ST_start (hTP M1 (hE.tr (hE1.sub (by decide))) (by rw [hE1 41 (by decide), hTs.1.2.2.1, hT.2.2.1])) (fun M2 hE2 hT2 => ?_)
        refine g_aload_n dX1_pickDuties_33 rfl ?_
        refine g_iconst (nI 0) dX1_pickDuties_34 ki_0 ?_
        refine g_call1 dX1_pickDuties_35 clC_readEither ml_C_38 gc1 rfl rfl (by decide) (Nat.le_of_ble_eq_true rfl) ?_
        refine SC_text (V := vwC S i) hT2 (fun w hw => by rw [hE2 51 (by decide)]; exact hv1 w hw) (fun M3 b hE3 hT3 hb => ?_)
        refine g_ist4_3 dX1_pickDuties_38 (by decide) rfl ?_
        refine g_aload_n dX1_pickDuties_39 rfl ?_
        refine g_getr (j := 1) dX1_pickDuties_40 gc1 rfl (by decide) rfl (by decide) fl_C_19 ?_
        refine g_call0 dX1_pickDuties_43 clT_end ml_C_42 gc7 rfl rfl (by decide) (Nat.le_of_ble_eq_true rfl) ?_
        refine ST_end hT3 (fun M4 hE4 hT4 => ?_)
        rw [coP_st] at hT4
        refine g_aload_n dX1_pickDuties_46 rfl ?_
        refine g_getr (j := 1) dX1_pickDuties_47 gc1 rfl (by decide) rfl (by decide) fl_C_19 ?_
        refine g_call0 dX1_pickDuties_50 clT_isFaulty ml_C_45 gc7 rfl rfl (by decide) (Nat.le_of_ble_eq_true rfl) ?_
        refine ST_isFaulty hT4 ?_
        rw [hok]
        have hE5 : EqO [41, 51] M M4 := (hE.tr (hE1.sub (by decide))).tr ((hE2.sub (by decide)).tr ((hE3.sub (by decide)).tr (hE4.sub (by decide))))
        have hbb : b = cdB S n t i := hb (ok_en (by rw [coP_st]; exact hok)).1
        have ih := ih (by omega) M4 hE5 hT4
        rw [pkB] at ih
        refine g_if_eq_ff 58 dX1_pickDuties_53 (by decide) ?_
        refine g_iload_n dX1_pickDuties_58 rfl ?_
        refine g_if_eq_b 72 dX1_pickDuties_59 (by decide) (fun c59 => ?_) (fun c59 => ?_)
        · rw [if_neg (by rw [← hbb, c59]; decide)] at ih
          first | refine g_incn4_2 dX1_pickDuties_72 ki_1 (by decide) rfl ?_ | refine g_incg4_2 (nI 1) dX1_pickDuties_72 ki_1 (by decide) rfl ?_
          refine g_goto 4 dX1_pickDuties_75 (by decide) ?_
          exact Go_sub [some (.ref 50), some (.int (pkB (cdB S n t) i)), some (.int (nI (i + 1))), none] (by simp [subL]) ih
        · rw [if_pos (by rw [← hbb]; exact c59)] at ih
          refine g_iload_n dX1_pickDuties_62 rfl ?_
          refine g_if_lt_n 72 dX1_pickDuties_63 (by decide) (by omega) ?_
          refine g_iload_n dX1_pickDuties_66 rfl ?_
          refine g_iconst (nI 1) dX1_pickDuties_67 ki_1 ?_
          refine g_iload_n dX1_pickDuties_68 rfl ?_
          refine g_ishl dX1_pickDuties_69 ?_
          refine g_ior dX1_pickDuties_70 ?_
          refine g_ist4_1 dX1_pickDuties_71 (by decide) rfl ?_
          first | refine g_incn4_2 dX1_pickDuties_72 ki_1 (by decide) rfl ?_ | refine g_incg4_2 (nI 1) dX1_pickDuties_72 ki_1 (by decide) rfl ?_
          refine g_goto 4 dX1_pickDuties_75 (by decide) ?_
          exact Go_sub [some (.ref 50), some (.int (pkB (cdB S n t) i ||| (nI 1 <<< (nI i &&& 31)))), some (.int (nI (i + 1))), none] (by simp [subL]) ih
  refine g_iload_n dX1_pickDuties_4 rfl ?_
  refine g_aload_n dX1_pickDuties_5 rfl ?_
  refine g_getr (j := 0) dX1_pickDuties_6 gc1 rfl (by decide) rfl (by decide) fl_C_15 ?_
  refine g_geti (j := 1) dX1_pickDuties_9 gc0 rfl (by decide) rfl (by decide) fl_C_23 ?_
  try simp (disch := omega) only [hB'.nd]
  refine g_icmp_ge 78 dX1_pickDuties_12 (by decide) (fun c12 => ?_) (fun c12 => ?_)
  · have hm : (-1 : Int32).toInt = -1 := by decide
    rw [hB.nd, Int32.le_iff_toInt_le, nI_toInt (by omega), hm] at c12
    omega
  · skip
    refine g_iload_n dX1_pickDuties_15 rfl ?_
    refine g_bipush (nI 24) dX1_pickDuties_16 kb_24 ?_
    refine g_icmp_ge 78 dX1_pickDuties_18 (by decide) (fun c18 => ?_) (fun c18 => ?_)
    · exact absurd c18 (by decide)
    · refine g_aload_n dX1_pickDuties_21 rfl ?_
      refine g_iload_n dX1_pickDuties_22 rfl ?_
      refine g_call1 dX1_pickDuties_23 clC_noteValues ml_C_29 gc1 rfl rfl (by decide) (Nat.le_of_ble_eq_true rfl) ?_
      refine SC_noteNone hB (fun M1 hE1 => ?_)
      refine g_aload_n dX1_pickDuties_26 rfl ?_
      refine g_getr (j := 1) dX1_pickDuties_27 gc1 rfl (by decide) rfl (by decide) fl_C_19 ?_
      refine g_call0 dX1_pickDuties_30 clT_start ml_C_33 gc7 rfl rfl (by decide) (Nat.le_of_ble_eq_true rfl) ?_
      refine ST_start (hTP M1 (hE1.sub (by decide)) (by rw [hE1 41 (by decide)])) (fun M2 hE2 hT2 => ?_)
      refine g_aload_n dX1_pickDuties_33 rfl ?_
      refine g_iconst (nI 0) dX1_pickDuties_34 ki_0 ?_
      refine g_call1 dX1_pickDuties_35 clC_readEither ml_C_38 gc1 rfl rfl (by decide) (Nat.le_of_ble_eq_true rfl) ?_
      refine SC_text (V := M2 51) hT2 (fun w hw => rfl) (fun M3 b hE3 hT3 hb => ?_)
      refine g_ist4_3 dX1_pickDuties_38 (by decide) rfl ?_
      refine g_aload_n dX1_pickDuties_39 rfl ?_
      refine g_getr (j := 1) dX1_pickDuties_40 gc1 rfl (by decide) rfl (by decide) fl_C_19 ?_
      refine g_call0 dX1_pickDuties_43 clT_end ml_C_42 gc7 rfl rfl (by decide) (Nat.le_of_ble_eq_true rfl) ?_
      refine ST_end hT3 (fun M4 hE4 hT4 => ?_)
      rw [coP_st] at hT4
      refine g_aload_n dX1_pickDuties_46 rfl ?_
      refine g_getr (j := 1) dX1_pickDuties_47 gc1 rfl (by decide) rfl (by decide) fl_C_19 ?_
      refine g_call0 dX1_pickDuties_50 clT_isFaulty ml_C_45 gc7 rfl rfl (by decide) (Nat.le_of_ble_eq_true rfl) ?_
      refine ST_isFaulty hT4 ?_
      have hE5 : EqO [41, 51] M M4 := (hE1.sub (by decide)).tr ((hE2.sub (by decide)).tr ((hE3.sub (by decide)).tr (hE4.sub (by decide))))
      by_cases hok : okB (stP n t) = true
      · rw [hok]
        have hl := hloop hok 0 (Nat.zero_le _) M4 hE5 hT4
        refine g_if_eq_ff 58 dX1_pickDuties_53 (by decide) ?_
        refine g_iload_n dX1_pickDuties_58 rfl ?_
        refine g_if_eq_b 72 dX1_pickDuties_59 (by decide) (fun c59 => ?_) (fun c59 => ?_)
        · first | refine g_incn4_2 dX1_pickDuties_72 ki_1 (by decide) rfl ?_ | refine g_incg4_2 (nI 1) dX1_pickDuties_72 ki_1 (by decide) rfl ?_
          refine g_goto 4 dX1_pickDuties_75 (by decide) ?_
          exact Go_sub [some (.ref 50), some (.int (nI 0)), some (.int (nI 0)), none] (by simp [subL]; decide) hl
        · skip
          refine g_iload_n dX1_pickDuties_62 rfl ?_
          refine g_if_lt 72 dX1_pickDuties_63 (by decide) (fun c63 => ?_) (fun c63 => ?_)
          · first | refine g_incn4_2 dX1_pickDuties_72 ki_1 (by decide) rfl ?_ | refine g_incg4_2 (nI 1) dX1_pickDuties_72 ki_1 (by decide) rfl ?_
            refine g_goto 4 dX1_pickDuties_75 (by decide) ?_
            exact Go_sub [some (.ref 50), some (.int (nI 0)), some (.int (nI 0)), none] (by simp [subL]; decide) hl
          · exact absurd (show (-1 : Int32) < 0 from by decide) c63
      · have hok := Bool.eq_false_iff.mpr hok
        rw [hok]
        refine g_if_eq_tt 58 dX1_pickDuties_53 (by decide) ?_
        refine g_iconst (nI 0) dX1_pickDuties_56 ki_0 ?_
        refine g_ireturn dX1_pickDuties_57 rfl (by first | rfl | exact nar_bI _) ?_
        exact h M4 _ hE5 hT4 (fun z => by rw [hok] at z; cases z)
