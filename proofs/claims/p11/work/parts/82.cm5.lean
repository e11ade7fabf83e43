/-! pick and openAll in the reference; both -/
theorem nn_k (x : Int32) : x < 0 ↔ x.toBitVec.msb = true := by
  rw [Int32.lt_iff_toBitVec_slt]
  exact BitVec.slt_zero_iff_msb_cond
theorem nn_or {a b : Int32} (ha : ¬ a < 0) (hb : ¬ b < 0) : ¬ (a ||| b) < 0 := by
  rw [nn_k] at ha hb ⊢
  rw [Int32.toBitVec_or, BitVec.msb_or]
  simp only [Bool.not_eq_true] at ha hb ⊢
  rw [ha, hb]; rfl
theorem and_1 (x : Int32) : x &&& nI 1 = nI 0 ∨ x &&& nI 1 = nI 1 := by
  have h : (x &&& 1).toBitVec = (BitVec.ofBool (x.toBitVec.getLsbD 0)).setWidth 32 := by
    rw [Int32.toBitVec_and]
    exact BitVec.and_one_eq_setWidth_ofBool_getLsbD
  cases hb : x.toBitVec.getLsbD 0 with
  | false => left; apply Int32.toBitVec_inj.mp; show (x &&& 1).toBitVec = _; rw [h, hb]; rfl
  | true => right; apply Int32.toBitVec_inj.mp; show (x &&& 1).toBitVec = _; rw [h, hb]; rfl
theorem or_0 (x : Int32) : x ||| nI 0 = x := Int32.or_zero
theorem nn_1 : ∀ d, d < 24 → ¬ (nI 1 <<< (nI d &&& 31)) < 0 := by decide +kernel
theorem nn_pk {c : Nat → Bool} : ∀ {n : Nat}, n ≤ 24 → ¬ pkB c n < 0
  | 0, _ => by rw [pkB]; decide
  | n + 1, h => by
    rw [pkB]
    split
    · exact nn_or (nn_pk (by omega)) (nn_1 n (by omega))
    · exact nn_pk (by omega)
theorem clV_cong {v w : Int32} {q : TS} (h : okB q = true → v = w) : clV v q = clV w q := by
  cases q with
  | inl a => rw [h rfl]
  | inr f => rfl
theorem VX_of {M : Mm} {S : BS} {i : Nat} (hM : MK (M 58) S) (hH : HM S) (hi : i < S 1 0 0 ∨ (S 1 0 0 = 0 ∧ i = 0)) (h25 : M 57 25 = nI i) : ∃ A K u X, VX i A K u X M ∧ (i < S 1 0 0 → (fun w => nI (vwF A K u X w)) = vwC S i) := by
  have hw := hM.wf.nd
  rcases hi with hi | ⟨h0, rfl⟩
  · have hd := hM.wf.dk (d := i) (by omega)
    refine ⟨S 10 i 0, S 11 i 0, S 12 i 0, dlv S (S 12 i 0) i, ⟨by omega, by omega, by omega, by omega, dlv_le hM.wf (by omega), hM.dy hi, hM.kd hi, hM.ho hi, fun h8 => ?_, h25⟩, fun _ => rfl⟩
    have hn := ho_np hM.wf hH hi h8
    rw [show dlv S (S 12 i 0) i = S 13 ((S 12 i 0)) i by unfold dlv; rw [if_pos hn]]
    exact hM.dl hn hi
  · obtain ⟨a, k, q, x, y1, y2, y3, y4, y5, y6, y7, y8⟩ := hM.mx h0
    exact ⟨a, k, q, x, ⟨by omega, y1, y2, y3, y4, y5, y6, y7, y8, h25⟩, fun z => absurd z (by omega)⟩
def EqU (M M' : Mm) : Prop := ∀ k j, ¬ (k = 57 ∧ (j = 20 ∨ j = 21 ∨ j = 22 ∨ j = 25 ∨ j = 26)) → M' k j = M k j
theorem EqU.tr {M M1 M2 : Mm} (h1 : EqU M M1) (h2 : EqU M1 M2) : EqU M M2 := fun k j h => (h2 k j h).trans (h1 k j h)
theorem EqU.ofT {M M' : Mm} (h : EqT M M') : EqU M M' := fun k j hk => h k j (fun z => hk (by omega))
theorem EqU.set {M : Mm} {j : Nat} {v : Int32} (h : j = 25 ∨ j = 26) : EqU M (mset M 57 j v) := fun k i hk => mset_off (fun z => hk (by omega))
theorem EqU.r58 {M M' : Mm} (h : EqU M M') : M' 58 = M 58 := funext fun j => h 58 j (by omega)
theorem TPm.eqU {n : Nat} {t : Nat → Nat} {M M' : Mm} (h : TPm n t M) (hE : EqU M M') : TPm n t M' := by
  refine ⟨h.1, h.2.1, ?_, fun i hi => ?_⟩
  · rw [hE 57 19 (by omega)]; exact h.2.2.1
  · rw [hE 69 i (by omega)]; exact h.2.2.2 i hi
def mnN (i n : Nat) : Nat := if i < n then i else n
theorem SM_picked {d : Nat} {n : Nat} {t : Nat → Nat} {M : Mm} {S : BS} {Q : Po} (hM : MK (M 58) S) (hH : HM S) (hT : TPm n t M) (h : ∀ M', (∀ k j, ¬ (k = 57 ∧ (j = 19 ∨ j = 20 ∨ j = 21 ∨ j = 22 ∨ j = 25 ∨ j = 26)) → M' k j = M k j) → M' 57 19 = nI 0 → (∀ f, stP n t = .inr f → f < 151) → Q M' (some (.int (clV (pkB (cdB S n t) (S 1 0 0)) (stP n t))))) : Call (d + 23) mM_picked [.ref 57] M Q := by
  have hw := hM.wf.nd
  have hmain : ∀ m, m = (if S 1 0 0 = 0 then 1 else S 1 0 0) → Go mM_picked (d + 23) Q 22 [some (.ref 57), some (.int (nI 0)), some (.int (nI m)), none, none] [] M := by
    intro m hm
    have hm2 : ∀ i, i < m → i < S 1 0 0 ∨ (S 1 0 0 = 0 ∧ i = 0) := fun i hi => by
      split at hm <;> omega
    have hm3 : 1 ≤ m ∧ S 1 0 0 ≤ m ∧ m ≤ 24 := by split at hm <;> omega
    clear hm
    refine g_iconst (nI 0) dX10_picked_22 ki_0 ?_
    refine g_ist5_3 dX10_picked_23 (by decide) rfl ?_
    refine loop_up (P := fun i => ∀ M' v, EqU M M' → (okB (stP n t) = true → v = pkB (cdB S n t) (mnN i (S 1 0 0))) → (1 ≤ i → ∃ q, TM n t M' q ∧ enS n q = stP n t) → Go mM_picked (d + 23) Q 24 [some (.ref 57), some (.int v), some (.int (nI m)), some (.int (nI i)), none] [] M') m ?_ 0 (Nat.zero_le _) M (nI 0) (fun _ _ _ => rfl) (fun _ => ?_) (fun z => absurd z (by omega))
    · intro i hi ih M' v hE hv hq
      refine g_iload_n dX10_picked_24 rfl ?_
      refine g_iload_n dX10_picked_25 rfl ?_
      refine g_icmp_ge_n 80 dX10_picked_26 (by decide) (by omega) (by omega) (fun c26 => ?_) (fun c26 => ?_)
      · obtain ⟨q, hTq, hq⟩ := hq (by omega)
        refine g_aload_n dX10_picked_80 rfl ?_
        refine g_iload_n dX10_picked_81 rfl ?_
        refine g_call1 dX10_picked_82 clM_closes ml_M_288 gc10 rfl rfl (by decide) (Nat.le_of_ble_eq_true rfl) ?_
        refine SM_closes _ hTq (fun M2 hE2 h19 => ?_)
        refine g_ireturn dX10_picked_85 rfl (by first | rfl | exact nar_bI _) ?_
        rw [hq, clV_cong hv, show mnN i (S 1 0 0) = S 1 0 0 by unfold mnN; rw [if_neg (by omega)]]
        exact h M2 (fun k j hk => by rw [hE2 k j (fun z => hk (by omega)), hE k j (fun z => hk (by omega))]) h19 (fun f e => by
          obtain ⟨f2, e2, h2⟩ := en_bad hTq (by rw [hq, e]; rfl)
          rw [hq, e] at e2
          cases e2
          exact h2)
      · have ih := ih (by omega)
        refine g_aload_n dX10_picked_29 rfl ?_
        refine g_call0 dX10_picked_30 clM_opensTape ml_M_282 gc10 rfl rfl (by decide) (Nat.le_of_ble_eq_true rfl) ?_
        refine SM_opensTape (hT.eqU hE) (fun M1 hE1 hT1 => ?_)
        refine g_aload_n dX10_picked_33 rfl ?_
        refine g_iconst (nI 0) dX10_picked_34 ki_0 ?_
        refine g_puti (j := 26) dX10_picked_35 gc10 rfl (by decide) rfl (by decide) fl_M_311 rfl (tyX10_ok 26 (by decide)) (by first | rfl | exact nar_bI _) rfl ?_
        refine g_aload_n dX10_picked_38 rfl ?_
        refine g_iload_n dX10_picked_39 rfl ?_
        refine g_puti (j := 25) dX10_picked_40 gc10 rfl (by decide) rfl (by decide) fl_M_295 rfl (tyX10_ok 25 (by decide)) (by first | rfl | exact nar_bI _) rfl ?_
        refine g_aload_n dX10_picked_43 rfl ?_
        refine g_call0 dX10_picked_44 clM_either ml_M_318 gc10 rfl rfl (by decide) (Nat.le_of_ble_eq_true rfl) ?_
        generalize hM2 : mset (mset M1 57 26 (nI 0)) 57 25 (nI i) = M2
        have hE2 : EqU M M2 := by
          rw [← hM2]
          exact hE.tr ((EqU.ofT hE1).tr ((EqU.set (by omega)).tr (EqU.set (by omega))))
        have hT2 : TM n t M2 (.inl 0) := by
          rw [← hM2]
          exact (hT1.off (mset_ne (by decide)) (fun j hj => mset_off (by omega))).off (mset_ne (by decide)) (fun j hj => mset_off (by omega))
        have e25 : M2 57 25 = nI i := by rw [← hM2, mset_at]
        have e26 : M2 57 26 = nI 0 := by rw [← hM2, mset_off (by omega), mset_at]
        clear hM2
        obtain ⟨A, K, u, X, hV, hV2⟩ := VX_of (M := M2) (by rw [hE2.r58]; exact hM) hH (hm2 i (by omega)) e25
        have hei : RdM i A K u X (d + 22) n t mM_either 0 (eiP n t (faP n t (fun w => nI (vwF A K u X w)) 4)) := by
          have := SM_either (mono_bo (mono_fa 4)) (SM_both (mono_fa 4) (SM_one (dd := i) (A := A) (K := K) (u := u) (X := X) (n := n) (t := t) 4 (Nat.le_refl 4) d))
          exact this
        refine hei M2 _ (.inl 0) hT2 hV e26 (fun M3 b hE3 hT3 hb => ?_)
        have hE4 : EqU M M3 := hE2.tr (EqU.ofT hE3)
        have hco : okB (stP n t) = true → b = (coP n t (fun w => nI (vwF A K u X w))).2 := fun z => hb (ok_en (n := n) (by
          show okB (enS n (coP n t (fun w => nI (vwF A K u X w))).1) = true
          rw [coP_st]
          exact z)).1
        have hnx : ∀ x, (okB (stP n t) = true → v ||| x = pkB (cdB S n t) (mnN (i + 1) (S 1 0 0))) → Go mM_picked (d + 23) Q 72 [some (.ref 57), some (.int v), some (.int (nI m)), some (.int (nI i)), some (.int (bI b))] [.int x, .int v] M3 := by
          intro x hx
          refine g_ior dX10_picked_72 ?_
          refine g_ist5_1 dX10_picked_73 (by decide) rfl ?_
          first | refine g_incn5_3 dX10_picked_74 ki_1 (by decide) rfl ?_ | refine g_incg5_3 (nI 1) dX10_picked_74 ki_1 (by decide) rfl ?_
          refine g_goto 24 dX10_picked_77 (by decide) ?_
          refine Go_sub [some (.ref 57), some (.int (v ||| x)), some (.int (nI m)), some (.int (nI (i + 1))), none] (by simp [subL]) (ih M3 _ hE4 hx (fun _ => ⟨_, hT3, ?_⟩))
          exact coP_st n t _
        have end_ : M3 58 2 = nI (S 1 0 0) := by rw [hE4.r58]; exact hM.nd
        refine g_ist5_4 dX10_picked_47 (by decide) rfl ?_
        refine g_iload_n dX10_picked_49 rfl ?_
        refine g_iload dX10_picked_50 rfl ?_
        refine g_if_eq_b 71 dX10_picked_52 (by decide) (fun c52 => ?_) (fun c52 => ?_)
        · refine g_iconst (nI 0) dX10_picked_71 ki_0 ?_
          refine hnx (nI 0) (fun z => ?_)
          rw [or_0, hv z]
          unfold mnN
          by_cases y : i < S 1 0 0
          · have hc : cdB S n t i = false := by
              rw [cdB, ← hV2 y, ← hco z]
              exact c52
            by_cases y2 : i + 1 < S 1 0 0
            · rw [if_pos y, if_pos y2, pkB, if_neg (by rw [hc]; decide)]
            · rw [if_pos y, if_neg y2, show S 1 0 0 = i + 1 by omega, pkB, if_neg (by rw [hc]; decide)]
          · rw [if_neg y, if_neg (by omega)]
        · skip
          refine g_iload_n dX10_picked_55 rfl ?_
          refine g_aload_n dX10_picked_56 rfl ?_
          refine g_getr (j := 0) dX10_picked_57 gc10 rfl (by decide) rfl (by decide) fl_M_9 ?_
          refine g_iconst (nI 2) dX10_picked_60 ki_2 ?_
          refine g_iald_n dX10_picked_61 (by first | rfl | assumption) (by first | decide | assumption) (by omega) (by omega) ?_
          try simp (disch := omega) only [end_]
          refine g_icmp_ge_n 71 dX10_picked_62 (by decide) (by omega) (by omega) (fun c62 => ?_) (fun c62 => ?_)
          · refine g_iconst (nI 0) dX10_picked_71 ki_0 ?_
            refine hnx (nI 0) (fun z => ?_)
            rw [or_0, hv z]
            unfold mnN
            rw [if_neg (by omega), if_neg (by omega)]
          · refine g_iconst (nI 1) dX10_picked_65 ki_1 ?_
            refine g_iload_n dX10_picked_66 rfl ?_
            refine g_ishl dX10_picked_67 ?_
            refine g_goto 72 dX10_picked_68 (by decide) ?_
            refine hnx (nI 1 <<< (nI i &&& 31)) (fun z => ?_)
            have y : i < S 1 0 0 := by omega
            have hc : cdB S n t i = true := by
              rw [cdB, ← hV2 y, ← hco z]
              exact c52
            rw [hv z]
            unfold mnN
            by_cases y2 : i + 1 < S 1 0 0
            · rw [if_pos y, if_pos y2, pkB, if_pos hc]
            · rw [if_pos y, if_neg y2, show S 1 0 0 = i + 1 by omega, pkB, if_pos hc]
    · unfold mnN
      split
      · rfl
      · rw [show S 1 0 0 = 0 by omega]; rfl
  refine Call_of (m := mM_picked) [some (.ref 57), none, none, none, none] rfl (fun G => Nat.le_of_ble_eq_true rfl) (fun G => rfl) ?_
  refine g_iconst (nI 0) dX10_picked_0 ki_0 ?_
  refine g_ist5_1 dX10_picked_1 (by decide) rfl ?_
  refine g_aload_n dX10_picked_2 rfl ?_
  refine g_getr (j := 0) dX10_picked_3 gc10 rfl (by decide) rfl (by decide) fl_M_9 ?_
  refine g_iconst (nI 2) dX10_picked_6 ki_2 ?_
  refine g_iald_n dX10_picked_7 (by first | rfl | assumption) (by first | decide | assumption) (by omega) (by omega) ?_
  try simp (disch := omega) only [hM.nd]
  refine g_if_ne_n 15 dX10_picked_8 (by decide) (by omega) (fun c8 => ?_) (fun c8 => ?_)
  · refine g_aload_n dX10_picked_15 rfl ?_
    refine g_getr (j := 0) dX10_picked_16 gc10 rfl (by decide) rfl (by decide) fl_M_9 ?_
    refine g_iconst (nI 2) dX10_picked_19 ki_2 ?_
    refine g_iald_n dX10_picked_20 (by first | rfl | assumption) (by first | decide | assumption) (by omega) (by omega) ?_
    try simp (disch := omega) only [hM.nd]
    refine g_ist5_2 dX10_picked_21 (by decide) rfl ?_
    exact hmain (S 1 0 0) (by rw [if_neg c8])
  · refine g_iconst (nI 1) dX10_picked_11 ki_1 ?_
    refine g_goto 21 dX10_picked_12 (by decide) ?_
    refine g_ist5_2 dX10_picked_21 (by decide) rfl ?_
    exact hmain 1 (by rw [if_pos c8])
theorem FxM.ofP {M M' : Mm} (h : ∀ k j, ¬ (k = 57 ∧ (j = 19 ∨ j = 20 ∨ j = 21 ∨ j = 22 ∨ j = 25 ∨ j = 26)) → M' k j = M k j) : FxM M M' := fun k j hk => h k j (fun z => by unfold okO at hk; omega)
theorem SM_pick (M : Mm) (S : BS) (n : Nat) (t : Nat → Nat) (Q : Po) (hM : MK (M 58) S) (hC : MC M) (hH : HM S) (hT : TPm n t M) (h : ∀ M', FxM M M' → MK (M' 58) (f_pick S n t).2.1 → M' 57 19 = (if (f_pick S n t).2.2 = true then nI n else nI 0) → Q M' (some (.int (f_pick S n t).1))) : Call 60 mM_pick [.ref 57] M Q := by
  unfold f_pick at h
  dsimp only at h
  refine Call_of (m := mM_pick) [some (.ref 57)] rfl (fun G => Nat.le_of_ble_eq_true rfl) (fun G => rfl) ?_
  refine g_aload_n dX10_pick_0 rfl ?_
  refine g_call0 dX10_pick_1 clM_picked ml_M_327 gc10 rfl rfl (by decide) (Nat.le_of_ble_eq_true rfl) ?_
  refine SM_picked hM hH hT (fun M' hE h19 _ => ?_)
  refine g_ireturn dX10_pick_4 rfl (by first | rfl | exact nar_bI _) ?_
  refine h M' (FxM.ofP hE) ?_ h19
  rw [show M' 58 = M 58 from funext fun j => hE 58 j (by omega)]
  exact hM
theorem both_pick : Both mF_pick mM_pick [] := both_text f_pick (fun M S n t Q => SF_pick M S n t Q) (fun M S n t Q => SM_pick M S n t Q) (fun S n t hn ht hW hH => hH)
theorem SM_openAll (M : Mm) (S : BS) (n : Nat) (t : Nat → Nat) (Q : Po) (hM : MK (M 58) S) (hC : MC M) (hH : HM S) (hT : TPm n t M) (h : ∀ M', FxM M M' → MK (M' 58) (f_openAll S n t).2.1 → M' 57 19 = (if (f_openAll S n t).2.2 = true then nI n else nI 0) → Q M' (some (.int (f_openAll S n t).1))) : Call 60 mM_openAll [.ref 57] M Q := by
  have hw := hM.wf.nd
  unfold f_openAll at h
  dsimp only at h
  refine Call_of (m := mM_openAll) [some (.ref 57), none, none, none] rfl (fun G => Nat.le_of_ble_eq_true rfl) (fun G => rfl) ?_
  refine g_aload_n dX10_openAll_0 rfl ?_
  refine g_call0 dX10_openAll_1 clM_picked ml_M_327 gc10 rfl rfl (by decide) (Nat.le_of_ble_eq_true rfl) ?_
  refine SM_picked hM hH hT (fun M1 hE1 h19 hf => ?_)
  have hM1 : MK (M1 58) S := by
    rw [show M1 58 = M 58 from funext fun j => hE1 58 j (by omega)]
    exact hM
  generalize stP n t = r at h hf ⊢
  cases r with
  | inr f =>
    have hneg := neg_l f (hf f rfl)
    rw [if_neg (show ¬ okB (.inr f) = true from fun z => by cases z)] at h
    have h := h M1 (FxM.ofP hE1) hM1 h19
    rw [show clV (nI (cnt (oaC S (pkB (cdB S n t) (S 1 0 0))) (S 1 0 0))) (.inr f) = -100 - nI f from rfl] at h
    rw [show clV (pkB (cdB S n t) (S 1 0 0)) (.inr f) = -100 - nI f from rfl]
    generalize -100 - nI f = w0 at h hneg ⊢
    have hend : Go mM_openAll 60 Q 60 [some (.ref 57), some (.int w0), some (.int (nI 0)), some (.int (nI 0))] [] M1 := by
      refine g_iload_n dX10_openAll_60 rfl ?_
      refine g_if_ge 68 dX10_openAll_61 (by decide) (fun c61 => ?_) (fun c61 => ?_)
      · exact absurd hneg (Int32.not_lt.mpr c61)
      · refine g_iload_n dX10_openAll_64 rfl ?_
        refine g_goto 69 dX10_openAll_65 (by decide) ?_
        refine g_ireturn dX10_openAll_69 rfl (by first | rfl | exact nar_bI _) ?_
        exact h
    refine g_ist4_1 dX10_openAll_4 (by decide) rfl ?_
    refine g_iconst (nI 0) dX10_openAll_5 ki_0 ?_
    refine g_ist4_2 dX10_openAll_6 (by decide) rfl ?_
    refine g_iconst (nI 0) dX10_openAll_7 ki_0 ?_
    refine g_ist4_3 dX10_openAll_8 (by decide) rfl ?_
    refine g_iload_n dX10_openAll_9 rfl ?_
    refine g_aload_n dX10_openAll_10 rfl ?_
    refine g_getr (j := 0) dX10_openAll_11 gc10 rfl (by decide) rfl (by decide) fl_M_9 ?_
    refine g_iconst (nI 2) dX10_openAll_14 ki_2 ?_
    refine g_iald_n dX10_openAll_15 (by first | rfl | assumption) (by first | decide | assumption) (by omega) (by omega) ?_
    try simp (disch := omega) only [hM1.nd]
    refine g_icmp_ge_n 60 dX10_openAll_16 (by decide) (by omega) (by omega) (fun c16 => ?_) (fun c16 => ?_)
    · exact hend
    · skip
      refine g_iload_n dX10_openAll_19 rfl ?_
      refine g_if_lt 60 dX10_openAll_20 (by decide) (fun c20 => ?_) (fun c20 => ?_)
      · exact hend
      · exact absurd hneg c20
  | inl a =>
    rw [if_pos (show okB (.inl a) = true from rfl)] at h
    rw [show clV (pkB (cdB S n t) (S 1 0 0)) (.inl a) = pkB (cdB S n t) (S 1 0 0) from rfl]
    have h : ∀ M', FxM M M' → MK (M' 58) (hoS S (oaG S (pkB (cdB S n t) (S 1 0 0))) (S 1 0 0)) → M' 57 19 = nI 0 → Q M' (some (.int (nI (cnt (oaC S (pkB (cdB S n t) (S 1 0 0))) (S 1 0 0))))) := h
    have hpos := nn_pk (c := cdB S n t) hw
    generalize pkB (cdB S n t) (S 1 0 0) = w at h hpos ⊢
    refine g_ist4_1 dX10_openAll_4 (by decide) rfl ?_
    refine g_iconst (nI 0) dX10_openAll_5 ki_0 ?_
    refine g_ist4_2 dX10_openAll_6 (by decide) rfl ?_
    refine g_iconst (nI 0) dX10_openAll_7 ki_0 ?_
    refine g_ist4_3 dX10_openAll_8 (by decide) rfl ?_
    refine loop_up (P := fun i => ∀ M', EqO [58] M1 M' → MK (M' 58) (hoS S (oaG S w) i) → Go mM_openAll 60 Q 9 [some (.ref 57), some (.int w), some (.int (nI (cnt (oaC S w) i))), some (.int (nI i))] [] M') (S 1 0 0) ?_ 0 (Nat.zero_le _) M1 EqO.rf (by rw [hoS_0]; exact hM1)
    intro i hi ih M' hE hM'
    have hdk := hM.wf.dk (d := i)
    have hcl := cnt_le (oaC S w) i
    have e1 : ∀ k, hoS S (oaG S w) k 1 0 0 = S 1 0 0 := fun k => by rw [hoS_oth (by decide)]
    refine g_iload_n dX10_openAll_9 rfl ?_
    refine g_aload_n dX10_openAll_10 rfl ?_
    refine g_getr (j := 0) dX10_openAll_11 gc10 rfl (by decide) rfl (by decide) fl_M_9 ?_
    refine g_iconst (nI 2) dX10_openAll_14 ki_2 ?_
    refine g_iald_n dX10_openAll_15 (by first | rfl | assumption) (by first | decide | assumption) (by omega) (by omega) ?_
    try simp (disch := omega) only [hM'.nd, e1]
    refine g_icmp_ge_n 60 dX10_openAll_16 (by decide) (by omega) (by omega) (fun c16 => ?_) (fun c16 => ?_)
    · refine g_iload_n dX10_openAll_60 rfl ?_
      refine g_if_ge 68 dX10_openAll_61 (by decide) (fun c61 => ?_) (fun c61 => ?_)
      · refine g_iload_n dX10_openAll_68 rfl ?_
        refine g_ireturn dX10_openAll_69 rfl (by first | rfl | exact nar_bI _) ?_
        rw [show i = S 1 0 0 by omega] at hM' ⊢
        refine h M' ((FxM.ofP hE1).tr (FxM.ofX ((EqX.ofO hE).sub (L' := [58]) (by decide)) (by decide))) hM' ?_
        rw [hE 57 (by decide), h19]
      · exact absurd (Int32.not_le.mp c61) hpos
    · have hdk := hdk (by omega)
      have hskip : ∀ i2, i2 = i → oaG S w i = S 12 i 0 → oaC S w i = false → Go mM_openAll 60 Q 54 [some (.ref 57), some (.int w), some (.int (nI (cnt (oaC S w) i2))), some (.int (nI i))] [] M' := by
        intro i2 e hg hc
        subst e
        first | refine g_incn4_3 dX10_openAll_54 ki_1 (by decide) rfl ?_ | refine g_incg4_3 (nI 1) dX10_openAll_54 ki_1 (by decide) rfl ?_
        refine g_goto 9 dX10_openAll_57 (by decide) ?_
        have ih := ih (by omega) M' hE (by rw [hoS_skip hg]; exact hM')
        rw [cnt_f hc] at ih
        exact ih
      refine g_iload_n dX10_openAll_19 rfl ?_
      refine g_if_lt 60 dX10_openAll_20 (by decide) (fun c20 => ?_) (fun c20 => ?_)
      · exact absurd c20 hpos
      · skip
        refine g_iload_n dX10_openAll_23 rfl ?_
        refine g_iload_n dX10_openAll_24 rfl ?_
        refine g_ishr dX10_openAll_25 ?_
        refine g_iconst (nI 1) dX10_openAll_26 ki_1 ?_
        refine g_iand dX10_openAll_27 ?_
        refine g_iconst (nI 1) dX10_openAll_28 ki_1 ?_
        refine g_icmp_ne 54 dX10_openAll_29 (by decide) (fun c29 => ?_) (fun c29 => ?_)
        · have c29 := (and_1 _).resolve_right c29
          refine hskip i rfl ?_ ?_
          · unfold oaG btB; rw [if_neg (by rw [c29]; decide)]
          · unfold oaC btB; rw [c29]; rfl
        · have hbt : btB w i = true := by
            unfold btB
            rw [c29]
            decide
          refine g_aload_n dX10_openAll_32 rfl ?_
          refine g_iload_n dX10_openAll_33 rfl ?_
          refine g_call1 dX10_openAll_34 clM_holder ml_M_78 gc10 rfl rfl (by decide) (Nat.le_of_ble_eq_true rfl) ?_
          refine SM_holder hM' (by rw [e1]; omega) ?_
          rw [hoS_at (Nat.le_refl i)]
          refine g_if_lt 54 dX10_openAll_37 (by decide) (fun c37 => ?_) (fun c37 => ?_)
          · rw [hv_lt hdk.2.2] at c37
            refine hskip i rfl ?_ ?_
            · unfold oaG; rw [if_pos hbt, c37]
            · unfold oaC; rw [c37]; simp
          · rw [hv_lt hdk.2.2] at c37
            refine g_aload_n dX10_openAll_40 rfl ?_
            refine g_getr (j := 0) dX10_openAll_41 gc10 rfl (by decide) rfl (by decide) fl_M_9 ?_
            refine g_sipush (nI 299) dX10_openAll_44 ks_299 ?_
            refine g_iload_n dX10_openAll_47 rfl ?_
            first | refine g_iadd_n dX10_openAll_48 ?_ | refine g_iadd dX10_openAll_48 ?_
            refine g_iconst ((-1)) dX10_openAll_49 ki_m1 ?_
            refine g_iast_n dX10_openAll_50 (by first | rfl | assumption) (by first | decide | assumption) (by omega) (by omega) ?_
            first | refine g_incn4_2 dX10_openAll_51 ki_1 (by decide) rfl ?_ | refine g_incg4_2 (nI 1) dX10_openAll_51 ki_1 (by decide) rfl ?_
            first | refine g_incn4_3 dX10_openAll_54 ki_1 (by decide) rfl ?_ | refine g_incg4_3 (nI 1) dX10_openAll_54 ki_1 (by decide) rfl ?_
            refine g_goto 9 dX10_openAll_57 (by decide) ?_
            have hM3 : MK (mset M' 58 (299 + i) (-1) 58) (hoS S (oaG S w) (i + 1)) := by
              rw [mset_same, hoS_step, show oaG S w i = 8 from if_pos hbt]
              exact hM'.hol1 (by rw [e1]; omega) (by omega)
            have ih := ih (by omega) (mset M' 58 (299 + i) (-1)) (hE.tr (EqO.set (by decide))) hM3
            rw [cnt_t (f := oaC S w) (by unfold oaC; rw [hbt]; simp [c37])] at ih
            exact ih
theorem HM_oaG {S : BS} (hH : HM S) (v : Int32) : HM (hoS S (oaG S v) (S 1 0 0)) := by
  intro d hd h8
  have e1 : hoS S (oaG S v) (S 1 0 0) 1 0 0 = S 1 0 0 := by rw [hoS_oth (by decide)]
  rw [e1] at hd
  rw [hoS_ho hd] at h8 ⊢
  unfold oaG at h8 ⊢
  split at h8
  · omega
  · rename_i z
    rw [if_neg z, may_ho (S := S) (fun a ha => hoS_oth ha)]
    exact hH d hd h8
theorem both_openAll : Both mF_openAll mM_openAll [] := both_text f_openAll (fun M S n t Q => SF_openAll M S n t Q) (fun M S n t Q => SM_openAll M S n t Q) (fun S n t hn ht hW hH => by
  unfold f_openAll
  dsimp only
  split
  · exact HM_oaG hH _
  · exact hH)
