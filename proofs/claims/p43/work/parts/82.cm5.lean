/-! pick and openAll in the reference; both -/
theorem nn_k (x : Int32) : x < 0 ↔ x.toBitVec.msb = true := by
  rw [Int32.lt_iff_toBitVec_slt]
  exact BitVec.slt_zero_iff_msb_cond
theorem nn_or {a b : Int32} (ha : ¬ a < 0) (hb : ¬ b < 0) : ¬ (a ||| b) < 0 := by
  rw [nn_k] at ha hb ⊢
  rw [Int32.toBitVec_or, BitVec.msb_or]
  simp only [Bool.not_eq_true] at ha hb ⊢
  rw [ha, hb]; rfl
theorem and_1 (x : Int32) : x &&& nI 1 = nI 0 ∨ x &&& nI 1 = nI 1 := by
  have h : (x &&& 1).toBitVec = (BitVec.ofBool (x.toBitVec.getLsbD 0)).setWidth 32 := by
    rw [Int32.toBitVec_and]
    exact BitVec.and_one_eq_setWidth_ofBool_getLsbD
  cases hb : x.toBitVec.getLsbD 0 with
  | false => left; apply Int32.toBitVec_inj.mp; show (x &&& 1).toBitVec = _; rw [h, hb]; rfl
  | true => right; apply Int32.toBitVec_inj.mp; show (x &&& 1).toBitVec = _; rw [h, hb]; rfl
theorem or_0 (x : Int32) : x ||| nI 0 = x := Int32.or_zero
theorem nn_1 : ∀ d, d < 24 → ¬ (nI 1 <<< (nI d &&& 31)) < 0 := by decide +kernel
theorem nn_pk {c : Nat → Bool} : ∀ {n : Nat}, n ≤ 24 → ¬ pkB c n < 0
  | 0, _ => by rw [pkB]; decide
  | n + 1, h => by
    rw [pkB]
    split
    · exact nn_or (nn_pk (by omega)) (nn_1 n (by omega))
    · exact nn_pk (by omega)
theorem clV_cong {v w : Int32} {q : TS} (h : okB q = true → v = w) : clV v q = clV w q := by
  cases q with
  | inl a => rw [h rfl]
  | inr f => rfl
theorem VX_of {M : Mm} {S : BS} {i : Nat} (hM : MK (M 58) S) (hH : HM S) (hi : i < S 1 0 0 ∨ (S 1 0 0 = 0 ∧ i = 0)) (h25 : M 57 25 = nI i) : ∃ A K u X, VX i A K u X M ∧ (i < S 1 0 0 → (fun w => nI (vwF A K u X w)) = vwC S i) := by
  have hw := hM.wf.nd
  rcases hi with hi | ⟨h0, rfl⟩
  · have hd := hM.wf.dk (d := i) (by omega)
    refine ⟨S 10 i 0, S 11 i 0, S 12 i 0, dlv S (S 12 i 0) i, ⟨by omega, by omega, by omega, by omega, dlv_le hM.wf (by omega), hM.dy hi, hM.kd hi, hM.ho hi, fun h8 => ?_, h25⟩, fun _ => rfl⟩
    have hn := ho_np hM.wf hH hi h8
    rw [show dlv S (S 12 i 0) i = S 13 ((S 12 i 0)) i by unfold dlv; rw [if_pos hn]]
    exact hM.dl hn hi
  · obtain ⟨a, k, q, x, y1, y2, y3, y4, y5, y6, y7, y8⟩ := hM.mx h0
    exact ⟨a, k, q, x, ⟨by omega, y1, y2, y3, y4, y5, y6, y7, y8, h25⟩, fun z => absurd z (by omega)⟩
def EqU (M M' : Mm) : Prop := ∀ k j, ¬ (k = 57 ∧ (j = 20 ∨ j = 21 ∨ j = 22 ∨ j = 25 ∨ j = 26)) → M' k j = M k j
theorem EqU.tr {M M1 M2 : Mm} (h1 : EqU M M1) (h2 : EqU M1 M2) : EqU M M2 := fun k j h => (h2 k j h).trans (h1 k j h)
theorem EqU.ofT {M M' : Mm} (h : EqT M M') : EqU M M' := fun k j hk => h k j (fun z => hk (by omega))
theorem EqU.set {M : Mm} {j : Nat} {v : Int32} (h : j = 25 ∨ j = 26) : EqU M (mset M 57 j v) := fun k i hk => mset_off (fun z => hk (by omega))
theorem EqU.r58 {M M' : Mm} (h : EqU M M') : M' 58 = M 58 := funext fun j => h 58 j (by omega)
theorem TPm.eqU {n : Nat} {t : Nat → Nat} {M M' : Mm} (h : TPm n t M) (hE : EqU M M') : TPm n t M' := by
  refine ⟨h.1, h.2.1, ?_, fun i hi => ?_⟩
  · rw [hE 57 19 (by omega)]; exact h.2.2.1
  · rw [hE 69 i (by omega)]; exact h.2.2.2 i hi
def mnN (i n : Nat) : Nat := if i < n then i else n
theorem SM_picked {d : Nat} {n : Nat} {t : Nat → Nat} {M : Mm} {S : BS} {Q : Po} (hM : MK (M 58) S) (hH : HM S) (hT : TPm n t M) (h : ∀ M', (∀ k j, ¬ (k = 57 ∧ (j = 19 ∨ j = 20 ∨ j = 21 ∨ j = 22 ∨ j = 25 ∨ j = 26)) → M' k j = M k j) → M' 57 19 = nI 0 → (∀ f, stP n t = .inr f → f < 151) → Q M' (some (.int (clV (pkB (cdB S n t) (S 1 0 0)) (stP n t))))) : Call (d + 23) mM_picked [.ref 57] M Q := by
  have hw := hM.wf.nd
  have hmain : ∀ m, m = (if S 1 0 0 = 0 then 1 else S 1 0 0) → Go mM_picked (d + 23) Q 22 [some (.ref 57), some (.int (nI 0)), some (.int (nI m)), none, none] [] M := by
    intro m hm
    have hm2 : ∀ i, i < m → i < S 1 0 0 ∨ (S 1 0 0 = 0 ∧ i = 0) := fun i hi => by
      split at hm <;> omega
    have hm3 : 1 ≤ m ∧ S 1 0 0 ≤ m ∧ m ≤ 24 := by split at hm <;> omega
    clear hm
    refine g_iconst (nI 0) dX10_picked_22 ki_0 ?_
    refine g_ist5_3 dX10_picked_23 (by decide) rfl ?_
    refine loop_up (P := fun i => ∀ M' v, EqU M M' → (okB (stP n t) = true → v = pkB (cdB S n t) (mnN i (S 1 0 0))) → (1 ≤ i → ∃ q, TM n t M' q ∧ enS n q = stP n t) → Go mM_picked (d + 23) Q 24 [some (.ref 57), some (.int v), some (.int (nI m)), some (.int (nI i)), none] [] M') m ?_ 0 (Nat.zero_le _) M (nI 0) (fun _ _ _ => rfl) (fun _ => ?_) (fun z => absurd z (by omega))
    · intro i hi ih M' v hE hv hq
      refine g_iload_n dX10_picked_24 rfl ?_
      refine g_iload_n dX10_picked_25 rfl ?_
      refine g_icmp_ge_n 80 dX10_picked_26 (by decide) (by omega) (by omega) (fun c26 => ?_) (fun c26 => ?_)
      · obtain ⟨q, hTq, hq⟩ := hq (by omega)
        refine g_aload_n dX10_picked_80 rfl ?_
        refine g_iload_n dX10_picked_81 rfl ?_
        refine g_call1 dX10_picked_82 clM_closes ml_M_288 gc10 rfl rfl (by decide) (Nat.le_of_ble_eq_true rfl) ?_
        refine SM_closes _ hTq (fun M2 hE2 h19 => ?_)
        refine g_ireturn dX10_picked_85 rfl (by first | rfl | exact nar_bI _) ?_
        rw [hq, clV_cong hv, show mnN i (S 1 0 0) = S 1 0 0 by unfold mnN; rw [if_neg (by omega)]]
        exact h M2 (fun k j hk => by rw [hE2 k j (fun z => hk (by omega)), hE k j (fun z => hk (by omega))]) h19 (fun f e => by
          obtain ⟨f2, e2, h2⟩ := en_bad hTq (by rw [hq, e]; rfl)
          rw [hq, e] at e2
          cases e2
          exact h2)
      · have ih := ih (by omega)
        refine g_aload_n dX10_picked_29 rfl ?_
        refine g_call0 dX10_picked_30 clM_opensTape ml_M_282 gc10 rfl rfl (by decide) (Nat.le_of_ble_eq_true rfl) ?_
        refine SM_opensTape (hT.eqU hE) (fun M1 hE1 hT1 => ?_)
        refine g_aload_n dX10_picked_33 rfl ?_
        refine g_iconst (nI 0) dX10_picked_34 ki_0 ?_
        refine g_puti (j := 26) dX10_picked_35 gc10 rfl (by decide) rfl (by decide) fl_M_311 rfl (tyX10_ok 26 (by decide)) (by first | rfl | exact nar_bI _) rfl ?_
        refine g_aload_n dX10_picked_38 rfl ?_
        refine g_iload_n dX10_picked_39 rfl ?_
        refine g_puti (j := 25) dX10_picked_40 gc10 rfl (by decide) rfl (by decide) fl_M_295 rfl (tyX10_ok 25 (by decide)) (by first | rfl | exact nar_bI _) rfl ?_
        refine g_aload_n dX10_picked_43 rfl ?_
        refine g_call0 dX10_picked_44 clM_either ml_M_318 gc10 rfl rfl (by decide) (Nat.le_of_ble_eq_true rfl) ?_
        generalize hM2 : mset (mset M1 57 26 (nI 0)) 57 25 (nI i) = M2
        have hE2 : EqU M M2 := by
          rw [← hM2]
          exact hE.tr ((EqU.ofT hE1).tr ((EqU.set (by omega)).tr (EqU.set (by omega))))
        have hT2 : TM n t M2 (.inl 0) := by
          rw [← hM2]
          exact (hT1.off (mset_ne (by decide)) (fun j hj => mset_off (by omega))).off (mset_ne (by decide)) (fun j hj => mset_off (by omega))
        have e25 : M2 57 25 = nI i := by rw [← hM2, mset_at]
        have e26 : M2 57 26 = nI 0 := by rw [← hM2, mset_off (by omega), mset_at]
        clear hM2
        obtain ⟨A, K, u, X, hV, hV2⟩ := VX_of (M := M2) (by rw [hE2.r58]; exact hM) hH (hm2 i (by omega)) e25
        have hei : RdM i A K u X (d + 22) n t mM_either 0 (eiP n t (faP n t (fun w => nI (vwF A K u X w)) 4)) := by
          have := SM_either (mono_bo (mono_fa 4)) (SM_both (mono_fa 4) (SM_one (dd := i) (A := A) (K := K) (u := u) (X := X) (n := n) (t := t) 4 (Nat.le_refl 4) d))
          exact this
        refine hei M2 _ (.inl 0) hT2 hV e26 (fun M3 b hE3 hT3 hb => ?_)
        have hE4 : EqU M M3 := hE2.tr (EqU.ofT hE3)
        have hco : okB (stP n t) = true → b = (coP n t (fun w => nI (vwF A K u X w))).2 := fun z => hb (ok_en (n := n) (by
          show okB (enS n (coP n t (fun w => nI (vwF A K u X w))).1) = true
          rw [coP_st]
          exact z)).1
        have hnx : ∀ x, (okB (stP n t) = true → v ||| x = pkB (cdB S n t) (mnN (i + 1) (S 1 0 0))) → Go mM_picked (d + 23) Q 72 [some (.ref 57), some (.int v), some (.int (nI m)), some (.int (nI i)), some (.int (bI b))] [.int x, .int v] M3 := by
          intro x hx
          refine g_ior dX10_picked_72 ?_
          refine g_ist5_1 dX10_picked_73 (by decide) rfl ?_
          first | refine g_incn5_3 dX10_picked_74 ki_1 (by decide) rfl ?_ | refine g_incg5_3 (nI 1) dX10_picked_74 ki_1 (by decide) rfl ?_
          refine g_goto 24 dX10_picked_77 (by decide) ?_
          refine Go_sub [some (.ref 57), some (.int (v ||| x)), some (.int (nI m)), some (.int (nI (i + 1))), none] (by simp [subL]) (ih M3 _ hE4 hx (fun _ => ⟨_, hT3, ?_⟩))
          exact coP_st n t _
        have end_ : M3 58 2 = nI (S 1 0 0) := by rw [hE4.r58]; exact hM.nd
        refine g_ist5_4 dX10_picked_47 (by decide) rfl ?_
        refine g_iload_n dX10_picked_49 rfl ?_
        refine g_iload dX10_picked_50 rfl ?_
        refine g_if_eq_b 71 dX10_picked_52 (by decide) (fun c52 => ?_) (fun c52 => ?_)
        · refine g_iconst (nI 0) dX10_picked_71 ki_0 ?_
          refine hnx (nI 0) (fun z => ?_)
          rw [or_0, hv z]
          unfold mnN
          by_cases y : i < S 1 0 0
          · have hc : cdB S n t i = false := by
              rw [cdB, ← hV2 y, ← hco z]
              exact c52
            by_cases y2 : i + 1 < S 1 0 0
            · rw [if_pos y, if_pos y2, pkB, if_neg (by rw [hc]; decide)]
            · rw [if_pos y, if_neg y2, show S 1 0 0 = i + 1 by omega, pkB, if_neg (by rw [hc]; decide)]
          · rw [if_neg y, if_neg (by omega)]
        · skip
          refine g_iload_n dX10_picked_55 rfl ?_
          refine g_aload_n dX10_picked_56 rfl ?_
          refine g_getr (j := 0) dX10_picked_57 gc10 rfl (by decide) rfl (by decide) fl_M_9 ?_
          refine g_iconst (nI 2) dX10_picked_60 ki_2 ?_
          refine g_iald_n dX10_picked_61 (by first | rfl | assumption) (by first | decide | assumption) (by omega) (by omega) ?_
          try simp (disch := omega) only [end_]
          refine g_icmp_ge_n 71 dX10_picked_62 (by decide) (by omega) (by omega) (fun c62 => ?_) (fun c62 => ?_)
          · refine g_iconst (nI 0) dX10_picked_71 ki_0 ?_
            refine hnx (nI 0) (fun z => ?_)
            rw [or_0, hv z]
            unfold mnN
            rw [if_neg (by omega), if_neg (by omega)]
          · refine g_iconst (nI 1) dX10_picked_65 ki_1 ?_
            refine g_iload_n dX10_picked_66 rfl ?_
            refine g_ishl dX10_picked_67 ?_
            refine g_goto 72 dX10_picked_68 (by decide) ?_
            refine hnx (nI 1 <<< (nI i &&& 31)) (fun z => ?_)
            have y : i < S 1 0 0 := by omega
            have hc : cdB S n t i = true := by
              rw [cdB, ← hV2 y, ← hco z]
              exact c52
            rw [hv z]
            unfold mnN
            by_cases y2 : i + 1 < S 1 0 0
            · rw [if_pos y, if_pos y2, pkB, if_pos hc]
            · rw [if_pos y, if_neg y2, show S 1 0 0 = i + 1 by omega, pkB, if_pos hc]
    · unfold mnN
      split
      · rfl
      · rw [show S 1 0 0 = 0 by omega]; rfl
  refine Call_of (m := mM_picked) [some (.ref 57), none, none, none, none] rfl (fun G => Nat.le_of_ble_eq_true rfl) (fun G => rfl) ?_
  refine g_iconst (nI 0) dX10_picked_0 ki_0 ?_
  refine g_ist5_1 dX10_picked_1 (by decide) rfl ?_
  refine g_aload_n dX10_picked_2 rfl ?_
  refine g_getr (j := 0) dX10_picked_3 gc10 rfl (by decide) rfl (by decide) fl_M_9 ?_
  refine g_iconst (nI 2) dX10_picked_6 ki_2 ?_
  refine g_iald_n dX10_picked_7 (by first | rfl | assumption) (by first | decide | assumption) (by omega) (by omega) ?_
  try simp (disch := omega) only [hM.nd]
  refine g_if_ne_n 15 dX10_picked_8 (by decide) (by omega) (fun c8 => ?_) (fun c8 => ?_)
  · refine g_aload_n dX10_picked_15 rfl ?_
    refine g_getr (j := 0) dX10_picked_16 gc10 rfl (by decide) rfl (by decide) fl_M_9 ?_
    refine g_iconst (nI 2) dX10_picked_19 ki_2 ?_
    refine g_iald_n dX10_picked_20 (by first | rfl | assumption) (by first | decide | assumption) (by omega) (by omega) ?_
    try simp (disch := omega) only [hM.nd]
    refine g_ist5_2 dX10_picked_21 (by decide) rfl ?_
    exact hmain (S 1 0 0) (by rw [if_neg c8])
  · refine g_iconst (nI 1) dX10_picked_11 ki_1 ?_
    refine g_goto 21 dX10_picked_12 (by decide) ?_
    refine g_ist5_2 dX10_picked_21 (by decide) rfl ?_
    exact hmain 1 (by rw [if_pos c8])
theorem FxM.ofP {M M' : Mm} (h : ∀ k j, ¬ (k = 57 ∧ (j = 19 ∨ j = 20 ∨ j = 21 ∨ j = 22 ∨ j = 25 ∨ j = 26)) → M' k j = M k j) : FxM M M' := fun k j hk => h k j (fun z => by unfold okO at hk; omega)
theorem SM_pick (M : Mm) (S : BS) (n : Nat) (t : Nat → Nat) (Q : Po) (hM : MK (M 58) S) (hC : MC M) (hH : HM S) (hT : TPm n t M) (h : ∀ M', FxM M M' → MK (M' 58) (f_pick S n t).2.1 → M' 57 19 = (if (f_pick S n t).2.2 = true then nI n else nI 0) → Q M' (some (.int (f_pick S n t).1))) : Call 60 mM_pick [.ref 57] M Q := by
  unfold f_pick at h
  dsimp only at h
  refine Call_of (m := mM_pick) [some (.ref 57)] rfl (fun G => Nat.le_of_ble_eq_true rfl) (fun G => rfl) ?_
  refine g_aload_n dX10_pick_0 rfl ?_
  refine g_call0 dX10_pick_1 clM_picked ml_M_327 gc10 rfl rfl (by decide) (Nat.le_of_ble_eq_true rfl) ?_
  refine SM_picked hM hH hT (fun M' hE h19 _ => ?_)
  refine g_ireturn dX10_pick_4 rfl (by first | rfl | exact nar_bI _) ?_
  refine h M' (FxM.ofP hE) ?_ h19
  rw [show M' 58 = M 58 from funext fun j => hE 58 j (by omega)]
  exact hM
theorem both_pick : Both mF_pick mM_pick [] := both_text f_pick (fun M S n t Q => SF_pick M S n t Q) (fun M S n t Q => SM_pick M S n t Q) (fun S n t hn ht hW hH => hH)
theorem SM_openAll (M : Mm) (S : BS) (n : Nat) (t : Nat → Nat) (Q : Po) (hM : MK (M 58) S) (hC : MC M) (hH : HM S) (hT : TPm n t M) (h : ∀ M', FxM M M' → MK (M' 58) (f_openAll S n t).2.1 → M' 57 19 = (if (f_openAll S n t).2.2 = true then nI n else nI 0) → Q M' (some (.int (f_openAll S n t).1))) : Call 60 mM_openAll [.ref 57] M Q := by
  have hw := hM.wf.nd
  unfold f_openAll at h
  dsimp only at h
  refine Call_of (m := mM_openAll) [some (.ref 57), none, none, none] rfl (fun G => Nat.le_of_ble_eq_true rfl) (fun G => rfl) ?_
  refine g_aload_n dX10_openAll_0 rfl ?_
  refine g_call0 dX10_openAll_1 clM_picked ml_M_327 gc10 rfl rfl (by decide) (Nat.le_of_ble_eq_true rfl) ?_
  refine SM_picked hM hH hT (fun M1 hE1 h19 hf => ?_)
  have hM1 : MK (M1 58) S := by
    rw [show M1 58 = M 58 from funext fun j => hE1 58 j (by omega)]
    exact hM
  generalize stP n t = r at h hf ⊢
  cases r with
  | inr f =>
    have hneg := neg_l f (hf f rfl)
    rw [if_neg (show ¬ okB (.inr f) = true from fun z => by cases z)] at h
    have h := h M1 (FxM.ofP hE1) hM1 h19
    rw [show clV (nI (cnt (oaC S (pkB (cdB S n t) (S 1 0 0))) (S 1 0 0))) (.inr f) = -100 - nI f from rfl] at h
    rw [show clV (pkB (cdB S n t) (S 1 0 0)) (.inr f) = -100 - nI f from rfl]
    generalize -100 - nI f = w0 at h hneg ⊢
    have hend : Go mM_openAll 60 Q 60 [some (.ref 57), some (.int w0), some (.int (nI 0)), some (.int (nI 0))] [] M1 := by
      refine g_iload_n dX10_openAll_60 rfl ?_
      refine g_if_ge 68 dX10_openAll_61 (by decide) (fun c61 => ?_) (fun c61 => ?_)
      · exact absurd hneg (Int32.not_lt.mpr c61)
      · refine g_iload_n dX10_openAll_64 rfl ?_
        refine g_goto 69 dX10_openAll_65 (by decide) ?_
        refine g_ireturn dX10_openAll_69 rfl (by first | rfl | exact nar_bI _) ?_
        exact h
    refine g_ist4_1 dX10_openAll_4 (by decide) rfl ?_
    refine g_iconst (nI 0) dX10_openAll_5 ki_0 ?_
    refine g_ist4_2 dX10_openAll_6 (by decide) rfl ?_
    refine g_iconst (nI 0) dX10_openAll_7 ki_0 ?_
    refine g_ist4_3 dX10_openAll_8 (by decide) rfl ?_
    refine g_iload_n dX10_openAll_9 rfl ?_
    refine g_aload_n dX10_openAll_10 rfl ?_
    refine g_getr (j := 0) dX10_openAll_11 gc10 rfl (by decide) rfl (by decide) fl_M_9 ?_
    refine g_iconst (nI 2) dX10_openAll_14 ki_2 ?_
    refine g_iald_n dX10_openAll_15 (by first | rfl | assumption) (by first | decide | assumption) (by omega) (by omega) ?_
    try simp (disch := omega) only [hM1.nd]
    refine g_icmp_ge_n 60 dX10_openAll_16 (by decide) (by omega) (by omega) (fun c16 => ?_) (fun c16 => ?_)
    · exact hend
    · skip
      refine g_iload_n dX10_openAll_19 rfl ?_
      refine g_if_lt 60 dX10_openAll_20 (by decide) (fun c20 => ?_) (fun c20 => ?_)
      · exact hend
      · exact absurd hneg c20
  | inl a =>
    rw [if_pos (show okB (.inl a) = true from rfl)] at h
    rw [show clV (pkB (cdB S n t) (S 1 0 0)) (.inl a) = pkB (cdB S n t) (S 1 0 0) from rfl]
    have h : ∀ M', FxM M M' → MK (M' 58) (hoS S (oaG S (pkB (cdB S n t) (S 1 0 0))) (S 1 0 0)) → M' 57 19 = nI 0 → Q M' (some (.int (nI (cnt (oaC S (pkB (cdB S n t) (S 1 0 0))) (S 1 0 0))))) := h
    have hpos := nn_pk (c := cdB S n t) hw
    generalize pkB (cdB S n t) (S 1 0 0) = w at h hpos ⊢
    refine g_ist4_1 dX10_openAll_4 (by decide) rfl ?_
    refine g_iconst (nI 0) dX10_openAll_5 ki_0 ?_
    refine g_ist4_2 dX10_openAll_6 (by decide) rfl ?_
    refine g_iconst (nI 0) dX10_openAll_7 ki_0 ?_
    refine g_ist4_3 dX10_openAll_8 (by decide) rfl ?_
    refine loop_up (P := fun i => ∀ M', EqO [58] M1 M' → MK (M' 58) (hoS S (oaG S w) i) → Go mM_openAll 60 Q 9 [some (.ref 57), some (.int w), some (.int (nI (cnt (oaC S w) i))), some (.int (nI i))] [] M') (S 1 0 0) ?_ 0 (Nat.zero_le _) M1 EqO.rf (by rw [hoS_0]; exact hM1)
    intro i hi ih M' hE hM'
    have hdk := hM.wf.dk (d := i)
    have hcl := cnt_le (oaC S w) i
    have e1 : ∀ k, hoS S (oaG S w) k 1 0 0 = S 1 0 0 := fun k => by rw [hoS_oth (by decide)]
    refine g_iload_n dX10_openAll_9 rfl ?_
    refine g_aload_n dX10_openAll_10 rfl ?_
    refine g_getr (j := 0) dX10_openAll_11 gc10 rfl (by decide) rfl (by decide) fl_M_9 ?_
    refine g_iconst (nI 2) dX10_openAll_14 ki_2 ?_
    refine g_iald_n dX10_openAll_15 (by first | rfl | assumption) (by first | decide | assumption) (by omega) (by omega) ?_
    try simp (disch := omega) only [hM'.nd, e1]
    refine g_icmp_ge_n 60 dX10_openAll_16 (by decide) (by omega) (by omega) (fun c16 => ?_) (fun c16 => ?_)
    · refine g_iload_n dX10_openAll_60 rfl ?_
      refine g_if_ge 68 dX10_openAll_61 (by decide) (fun c61 => ?_) (fun c61 => ?_)
      · refine g_iload_n dX10_openAll_68 rfl ?_
        refine g_ireturn dX10_openAll_69 rfl (by first | rfl | exact nar_bI _) ?_
        rw [show i = S 1 0 0 by omega] at hM' ⊢
        refine h M' ((FxM.ofP hE1).tr (FxM.ofX ((EqX.ofO hE).sub (L' := [58]) (by decide)) (by decide))) hM' ?_
        rw [hE 57 (by decide), h19]
      · exact absurd (Int32.not_le.mp c61) hpos
    · have hdk := hdk (by omega)
      have hskip : ∀ i2, i2 = i → oaG S w i = S 12 i 0 → oaC S w i = false → Go mM_openAll 60 Q 54 [some (.ref 57), some (.int w), some (.int (nI (cnt (oaC S w) i2))), some (.int (nI i))] [] M' := by
        intro i2 e hg hc
        subst e
        first | refine g_incn4_3 dX10_openAll_54 ki_1 (by decide) rfl ?_ | refine g_incg4_3 (nI 1) dX10_openAll_54 ki_1 (by decide) rfl ?_
        refine g_goto 9 dX10_openAll_57 (by decide) ?_
        have ih := ih (by omega) M' hE (by rw [hoS_skip hg]; exact hM')
        rw [cnt_f hc] at ih
        exact ih
      refine g_iload_n dX10_openAll_19 rfl ?_
      refine g_if_lt 60 dX10_openAll_20 (by decide) (fun c20 => ?_) (fun c20 => ?_)
      · exact absurd c20 hpos
      · skip
        refine g_iload_n dX10_openAll_23 rfl ?_
        refine g_iload_n dX10_openAll_24 rfl ?_
        refine g_ishr dX10_openAll_25 ?_
        refine g_iconst (nI 1) dX10_openAll_26 ki_1 ?_
        refine g_iand dX10_openAll_27 ?_
        refine g_iconst (nI 1) dX10_openAll_28 ki_1 ?_
        refine g_icmp_ne 54 dX10_openAll_29 (by decide) (fun c29 => ?_) (fun c29 => ?_)
        · have c29 := (and_1 _).resolve_right c29
          refine hskip i rfl ?_ ?_
          · unfold oaG btB; rw [if_neg (by rw [c29]; decide)]
          · unfold oaC btB; rw [c29]; rfl
        · have hbt : btB w i = true := by
            unfold btB
            rw [c29]
            decide
          refine g_aload_n dX10_openAll_32 rfl ?_
          refine g_iload_n dX10_openAll_33 rfl ?_
          refine g_call1 dX10_openAll_34 clM_holder ml_M_78 gc10 rfl rfl (by decide) (Nat.le_of_ble_eq_true rfl) ?_
          refine SM_holder hM' (by rw [e1]; omega) ?_
          rw [hoS_at (Nat.le_refl i)]
          refine g_if_lt 54 dX10_openAll_37 (by decide) (fun c37 => ?_) (fun c37 => ?_)
          · rw [hv_lt hdk.2.2] at c37
            refine hskip i rfl ?_ ?_
            · unfold oaG; rw [if_pos hbt, c37]
            · unfold oaC; rw [c37]; simp
          · rw [hv_lt hdk.2.2] at c37
            refine g_aload_n dX10_openAll_40 rfl ?_
            refine g_getr (j := 0) dX10_openAll_41 gc10 rfl (by decide) rfl (by decide) fl_M_9 ?_
            refine g_sipush (nI 299) dX10_openAll_44 ks_299 ?_
            refine g_iload_n dX10_openAll_47 rfl ?_
            first | refine g_iadd_n dX10_openAll_48 ?_ | refine g_iadd dX10_openAll_48 ?_
            refine g_iconst ((-1)) dX10_openAll_49 ki_m1 ?_
            refine g_iast_n dX10_openAll_50 (by first | rfl | assumption) (by first | decide | assumption) (by omega) (by omega) ?_
            first | refine g_incn4_2 dX10_openAll_51 ki_1 (by decide) rfl ?_ | refine g_incg4_2 (nI 1) dX10_openAll_51 ki_1 (by decide) rfl ?_
            first | refine g_incn4_3 dX10_openAll_54 ki_1 (by decide) rfl ?_ | refine g_incg4_3 (nI 1) dX10_openAll_54 ki_1 (by decide) rfl ?_
            refine g_goto 9 dX10_openAll_57 (by decide) ?_
            have hM3 : MK (mset M' 58 (299 + i) (-1) 58) (hoS S (oaG S w) (i + 1)) := by
              rw [mset_same, hoS_step, show oaG S w i = 8 from if_pos hbt]
              exact hM'.hol1 (by rw [e1]; omega) (by omega)
            have ih := ih (by omega) (mset M' 58 (299 + i) (-1)) (hE.tr (EqO.set (by decide))) hM3
            rw [cnt_t (f := oaC S w) (by unfold oaC; rw [hbt]; simp [c37])] at ih
            exact ih
theorem HM_oaG {S : BS} (hH : HM S) (v : Int32) : HM (hoS S (oaG S v) (S 1 0 0)) := by
  intro d hd h8
  have e1 : hoS S (oaG S v) (S 1 0 0) 1 0 0 = S 1 0 0 := by rw [hoS_oth (by decide)]
  rw [e1] at hd
  rw [hoS_ho hd] at h8 ⊢
  unfold oaG at h8 ⊢
  split at h8
  · omega
  · rename_i z
    rw [if_neg z, may_ho (S := S) (fun a ha => hoS_oth ha)]
    exact hH d hd h8
theorem both_openAll : Both mF_openAll mM_openAll [] := both_text f_openAll (fun M S n t Q => SF_openAll M S n t Q) (fun M S n t Q => SM_openAll M S n t Q) (fun S n t hn ht hW hH => by
  unfold f_openAll
  dsimp only
  split
  · exact HM_oaG hH _
  · exact hH)
/-! RINGS: pure; the best of those seen -/
abbrev RW : Type := Nat → Nat
def rowOK (S : BS) (r : RW) (m : Nat) : Prop := ∀ k, k < m → r k < S 1 0 0 ∧ S 12 (r k) 0 < 8 ∧ S 11 (r k) 0 = S 11 (r 0) 0 ∧ (0 < k → r 0 < r k ∧ mayB S (S 12 (r k) 0) (r (k - 1)) = true) ∧ ∀ j, j < k → S 12 (r j) 0 ≠ S 12 (r k) 0
def ringOK (S : BS) (r : RW) (m : Nat) : Prop := 2 ≤ m ∧ m ≤ 4 ∧ rowOK S r m ∧ mayB S (S 12 (r 0) 0) (r (m - 1)) = true
def ownR (S : BS) (r : RW) (k : Nat) : Int := (dlv S (S 12 (r k) 0) (r k) : Nat)
def nxtR (S : BS) (r : RW) (k : Nat) : Int := if k = 0 then 0 else (dlv S (S 12 (r k) 0) (r (k - 1)) : Nat)
def lstR (S : BS) (r : RW) (m : Nat) : Int := (dlv S (S 12 (r 0) 0) (r (m - 1)) : Nat)
def pgR (S : BS) (r : RW) : Nat → Int
  | 0 => 0
  | k + 1 => pgR S r k + ownR S r k - nxtR S r k
def gnR (S : BS) (r : RW) (m : Nat) : Int := pgR S r m - lstR S r m
theorem pg_cong {S : BS} {r q : RW} : ∀ {m : Nat}, (∀ i, i < m → r i = q i) → pgR S r m = pgR S q m
  | 0, _ => rfl
  | k + 1, h => by
    rw [pgR, pgR, pg_cong (fun i hi => h i (by omega))]
    unfold ownR nxtR
    rw [h k (by omega)]
    by_cases z : k = 0
    · rw [if_pos z, if_pos z]
    · rw [if_neg z, if_neg z, h (k - 1) (by omega)]
theorem gn_cong {S : BS} {r q : RW} {m : Nat} (h : ∀ i, i < m → r i = q i) (hm : 0 < m) : gnR S r m = gnR S q m := by
  unfold gnR lstR
  rw [pg_cong h, h 0 hm, h (m - 1) (by omega)]
def lexR (m : Nat) (r q : RW) : Prop := ∃ j, j < m ∧ (∀ i, i < j → r i = q i) ∧ r j < q j
def sameR (m : Nat) (r : RW) (s : Nat) (q : RW) : Prop := m = s ∧ ∀ i, i < m → r i = q i
def btR (S : BS) (m : Nat) (r : RW) (s : Nat) (q : RW) : Prop := gnR S q s < gnR S r m ∨ (gnR S q s = gnR S r m ∧ (m < s ∨ (m = s ∧ lexR m r q)))
theorem lex_asym {m : Nat} {r q : RW} (h : lexR m r q) : ¬ lexR m q r := by
  rintro ⟨j, h1, h2, h3⟩
  obtain ⟨i, g1, g2, g3⟩ := h
  rcases Nat.lt_trichotomy i j with z | z | z
  · have := h2 i z; omega
  · subst z; omega
  · have := g2 j z; omega
theorem lex_trans {m : Nat} {r q p : RW} (h : lexR m r q) (g : lexR m q p) : lexR m r p := by
  obtain ⟨i, h1, h2, h3⟩ := h
  obtain ⟨j, g1, g2, g3⟩ := g
  rcases Nat.lt_trichotomy i j with z | z | z
  · exact ⟨i, h1, fun x hx => (h2 x hx).trans (g2 x (by omega)), by rw [← g2 i z]; exact h3⟩
  · subst z
    exact ⟨i, h1, fun x hx => (h2 x hx).trans (g2 x hx), by omega⟩
  · exact ⟨j, g1, fun x hx => (h2 x (by omega)).trans (g2 x hx), by rw [h2 j z]; exact g3⟩
theorem lex_tri {r q : RW} : ∀ m, (∀ i, i < m → r i = q i) ∨ lexR m r q ∨ lexR m q r
  | 0 => Or.inl (fun i hi => absurd hi (by omega))
  | m + 1 => by
    rcases lex_tri (r := r) (q := q) m with h | ⟨j, h1, h2, h3⟩ | ⟨j, h1, h2, h3⟩
    · rcases Nat.lt_trichotomy (r m) (q m) with z | z | z
      · exact Or.inr (Or.inl ⟨m, by omega, h, z⟩)
      · refine Or.inl (fun i hi => ?_)
        by_cases e : i = m
        · rw [e]; exact z
        · exact h i (by omega)
      · exact Or.inr (Or.inr ⟨m, by omega, fun i hi => (h i hi).symm, z⟩)
    · exact Or.inr (Or.inl ⟨j, by omega, h2, h3⟩)
    · exact Or.inr (Or.inr ⟨j, by omega, h2, h3⟩)
theorem bt_asym {S : BS} {m s : Nat} {r q : RW} (h : btR S m r s q) : ¬ btR S s q m r := by
  unfold btR at h ⊢
  intro g
  rcases h with h | ⟨h1, h2⟩ <;> rcases g with g | ⟨g1, g2⟩
  · omega
  · omega
  · omega
  · rcases h2 with h2 | ⟨h2, h3⟩ <;> rcases g2 with g2 | ⟨g2, g3⟩
    · omega
    · omega
    · omega
    · subst h2
      exact lex_asym h3 g3
theorem bt_trans {S : BS} {m s u : Nat} {r q p : RW} (h : btR S m r s q) (g : btR S s q u p) : btR S m r u p := by
  unfold btR at h g ⊢
  rcases h with h | ⟨h1, h2⟩ <;> rcases g with g | ⟨g1, g2⟩
  · left; omega
  · left; omega
  · left; omega
  · right
    refine ⟨by omega, ?_⟩
    rcases h2 with h2 | ⟨h2, h3⟩ <;> rcases g2 with g2 | ⟨g2, g3⟩
    · left; omega
    · left; omega
    · left; omega
    · subst h2
      exact Or.inr ⟨g2, lex_trans h3 g3⟩
theorem bt_same {S : BS} {m s u : Nat} {r q p : RW} (h : btR S m r s q) (g : sameR s q u p) (hs : 0 < s) : btR S m r u p := by
  obtain ⟨e, g⟩ := g
  subst e
  unfold btR at h ⊢
  rw [← gn_cong g hs]
  rcases h with h | ⟨h1, h2 | ⟨h2, j, h3, h4, h5⟩⟩
  · exact Or.inl h
  · exact Or.inr ⟨h1, Or.inl h2⟩
  · exact Or.inr ⟨h1, Or.inr ⟨h2, j, h3, fun i hi => (h4 i hi).trans (g i (by omega)), by rw [← g j (by omega)]; exact h5⟩⟩
def BstP (S : BS) (P : Nat → RW → Prop) (m : Nat) (r : RW) : Prop := (m = 0 ∧ ∀ s q, P s q → ringOK S q s → gnR S q s ≤ 0) ∨ (ringOK S r m ∧ 0 < gnR S r m ∧ P m r ∧ ∀ s q, P s q → ringOK S q s → sameR m r s q ∨ btR S m r s q)
theorem Bst_uniq {S : BS} {m s : Nat} {r q : RW} {P : Nat → RW → Prop} (hP : ∀ s q, ringOK S q s → P s q) (h : BstP S P m r) (g : BstP S P s q) : m = s ∧ ∀ i, i < m → r i = q i := by
  rcases h with ⟨h1, h2⟩ | ⟨h1, h2, h3, h4⟩ <;> rcases g with ⟨g1, g2⟩ | ⟨g1, g2, g3, g4⟩
  · exact ⟨by omega, fun i hi => by omega⟩
  · have := h2 s q (hP s q g1) g1; omega
  · have := g2 m r (hP m r h1) h1; omega
  · rcases h4 s q (hP s q g1) g1 with z | z
    · exact z
    · rcases g4 m r (hP m r h1) h1 with ⟨y, y2⟩ | y
      · exact ⟨y.symm, fun i hi => (y2 i (by omega)).symm⟩
      · exact absurd y (bt_asym z)
theorem Bst_keep {S : BS} {m : Nat} {r : RW} {P P' : Nat → RW → Prop} (h : BstP S P m r) (hp : ∀ s q, P' s q → ringOK S q s → P s q ∨ gnR S q s ≤ 0 ∨ (m ≠ 0 ∧ (sameR m r s q ∨ btR S m r s q))) (h2 : ringOK S r m → P m r → P' m r) : BstP S P' m r := by
  rcases h with ⟨h1, h3⟩ | ⟨h1, h3, h4, h5⟩
  · refine Or.inl ⟨h1, fun s q hs hr => ?_⟩
    rcases hp s q hs hr with z | z | z
    · exact h3 s q z hr
    · exact z
    · exact absurd h1 z.1
  · refine Or.inr ⟨h1, h3, h2 h1 h4, fun s q hs hr => ?_⟩
    rcases hp s q hs hr with z | z | z
    · exact h5 s q z hr
    · exact Or.inr (Or.inl (by omega))
    · exact z.2
theorem Bst_new {S : BS} {m s : Nat} {r q : RW} {P P' : Nat → RW → Prop} (h : BstP S P m r) (hq : ringOK S q s) (hg : 0 < gnR S q s) (hb : m = 0 ∨ btR S s q m r) (hp : ∀ u p, P' u p → ringOK S p u → P u p ∨ gnR S p u ≤ 0 ∨ sameR s q u p) (h2 : P' s q) : BstP S P' s q := by
  refine Or.inr ⟨hq, hg, h2, fun u p hu hr => ?_⟩
  rcases hp u p hu hr with z | z | z
  · rcases h with ⟨h1, h3⟩ | ⟨h1, h3, h4, h5⟩
    · have := h3 u p z hr
      exact Or.inr (Or.inl (by omega))
    · have hb := hb.resolve_left (by have := h1.1; omega)
      rcases h5 u p z hr with y | y
      · exact Or.inr (bt_same hb y (by have := h1.1; omega))
      · exact Or.inr (bt_trans hb y)
  · exact Or.inr (Or.inl (by omega))
  · exact Or.inl z
/-! RINGS in the class: who holds, what it costs -/
/-- the held duties of a kind, below b, in their order -/
def HLp (S : BS) (k hc : Nat) (hl : Nat → Nat) (b : Nat) : Prop := hc ≤ b ∧ (∀ i, i < hc → hl i < b ∧ S 11 (hl i) 0 = k ∧ S 12 (hl i) 0 < 8) ∧ (∀ i j, i < j → j < hc → hl i < hl j) ∧ ∀ e, e < b → S 11 e 0 = k → S 12 e 0 < 8 → ∃ i, i < hc ∧ hl i = e
theorem HLp.skip {S : BS} {k hc b : Nat} {hl : Nat → Nat} (h : HLp S k hc hl b) (hb : ¬ (S 11 b 0 = k ∧ S 12 b 0 < 8)) : HLp S k hc hl (b + 1) := by
  obtain ⟨h1, h2, h3, h4⟩ := h
  refine ⟨by omega, fun i hi => ⟨by have := (h2 i hi).1; omega, (h2 i hi).2⟩, h3, fun e he hk h8 => ?_⟩
  by_cases z : e = b
  · subst z; exact absurd ⟨hk, h8⟩ hb
  · exact h4 e (by omega) hk h8
theorem HLp.add {S : BS} {k hc b : Nat} {hl : Nat → Nat} (h : HLp S k hc hl b) (hb : S 11 b 0 = k ∧ S 12 b 0 < 8) : HLp S k (hc + 1) (fun i => if i = hc then b else hl i) (b + 1) := by
  obtain ⟨h1, h2, h3, h4⟩ := h
  refine ⟨by omega, fun i hi => ?_, fun i j hij hj => ?_, fun e he hk h8 => ?_⟩
  · by_cases z : i = hc
    · dsimp only; rw [if_pos z]; exact ⟨by omega, hb⟩
    · dsimp only; rw [if_neg z]
      have := h2 i (by omega)
      exact ⟨by omega, this.2⟩
  · dsimp only
    rw [if_neg (show ¬ i = hc by omega)]
    by_cases z : j = hc
    · rw [if_pos z]; exact (h2 i (by omega)).1
    · rw [if_neg z]; exact h3 i j hij (by omega)
  · by_cases z : e = b
    · exact ⟨hc, by omega, by dsimp only; rw [if_pos rfl, z]⟩
    · obtain ⟨i, hi, e1⟩ := h4 e (by omega) hk h8
      exact ⟨i, by omega, by dsimp only; rw [if_neg (by omega)]; exact e1⟩
def bitR (S : BS) (e : Nat) : Int32 := nI 1 <<< (nI (S 12 e 0) &&& 31)
def HLm (S : BS) (M : Mm) (hc : Nat) (hl : Nat → Nat) : Prop := M 35 6 = nI hc ∧ ∀ i, i < hc → M 36 i = nI (hl i) ∧ M 37 i = bitR S (hl i)
theorem SG_noteHeld {d : Nat} {M : Mm} {S : BS} {Q : Po} {k : Nat} (hB : BK M S) (hk : k < 4) (h : ∀ M' hc hl, EqO [35, 36, 37] M M' → (∀ j, j ≠ 6 → M' 35 j = M 35 j) → HLp S k hc hl (S 1 0 0) → HLm S M' hc hl → Q M' none) : Call (d + 3) mG_noteHeld [.ref 35, .int (nI k)] M Q := by
  have hw := hB.wf.nd
  refine Call_of (m := mG_noteHeld) [some (.ref 35), some (.int (nI k)), none, none] rfl (fun G => Nat.le_of_ble_eq_true rfl) (fun G => rfl) ?_
  refine g_aload_n dX5_noteHeld_0 rfl ?_
  refine g_iconst (nI 0) dX5_noteHeld_1 ki_0 ?_
  refine g_puti (j := 6) dX5_noteHeld_2 gc5 rfl (by decide) rfl (by decide) fl_G_31 rfl (tyX5_ok 6 (by decide)) (by first | rfl | exact nar_bI _) rfl ?_
  refine g_iconst (nI 0) dX5_noteHeld_5 ki_0 ?_
  refine g_ist4_2 dX5_noteHeld_6 (by decide) rfl ?_
  suffices hloop : ∀ r i, i + r = S 1 0 0 → ∀ M' hc hl, EqO [35, 36, 37] M M' → (∀ j, j ≠ 6 → M' 35 j = M 35 j) → HLp S k hc hl i → HLm S M' hc hl → Go mG_noteHeld (d + 3) Q 7 [some (.ref 35), some (.int (nI k)), some (.int (nI i)), none] [] M' by
    exact hloop (S 1 0 0) 0 (by omega) _ 0 (fun _ => 0) (EqO.set (by decide)) (fun j hj => mset_off (by omega)) ⟨Nat.le_refl 0, fun i hi => absurd hi (by omega), fun i j _ hj => absurd hj (by omega), fun e he => absurd he (by omega)⟩ ⟨mset_at _ _ _ _, fun i hi => absurd hi (by omega)⟩
  intro r
  induction r with
  | zero =>
    intro i hir M' hc hl hE h35 hp hm
    have hB' : BK M' S := hB.eqO hE (by decide)
    refine g_iload_n dX5_noteHeld_7 rfl ?_
    refine g_aload_n dX5_noteHeld_8 rfl ?_
    refine g_getr (j := 0) dX5_noteHeld_9 gc5 rfl (by decide) rfl (by decide) fl_G_27 ?_
    refine g_geti (j := 1) dX5_noteHeld_12 gc0 rfl (by decide) rfl (by decide) fl_G_59 ?_
    try simp (disch := omega) only [hB'.nd]
    refine g_icmp_ge_n 94 dX5_noteHeld_15 (by decide) (by omega) (by omega) (fun c15 => ?_) (fun c15 => ?_)
    · refine g_return dX5_noteHeld_94 rfl ?_
      rw [show i = S 1 0 0 by omega] at hp
      exact h M' hc hl hE h35 hp hm
    · exact absurd hir (by omega)
  | succ r ih =>
    intro i hir M' hc hl hE h35 hp hm
    have hB' : BK M' S := hB.eqO hE (by decide)
    have hd := hB.wf.dk (d := i) (by omega)
    have h6 := hm.1
    have hci := hp.1
    have hskip : ∀ w, ¬ (S 11 i 0 = k ∧ S 12 i 0 < 8) → Go mG_noteHeld (d + 3) Q 88 [some (.ref 35), some (.int (nI k)), some (.int (nI i)), some (.int w)] [] M' := by
      intro w hb
      first | refine g_incn4_2 dX5_noteHeld_88 ki_1 (by decide) rfl ?_ | refine g_incg4_2 (nI 1) dX5_noteHeld_88 ki_1 (by decide) rfl ?_
      refine g_goto 7 dX5_noteHeld_91 (by decide) ?_
      exact Go_sub [some (.ref 35), some (.int (nI k)), some (.int (nI (i + 1))), none] (by simp [subL]) (ih (i + 1) (by omega) M' hc hl hE h35 (hp.skip hb) hm)
    refine g_iload_n dX5_noteHeld_7 rfl ?_
    refine g_aload_n dX5_noteHeld_8 rfl ?_
    refine g_getr (j := 0) dX5_noteHeld_9 gc5 rfl (by decide) rfl (by decide) fl_G_27 ?_
    refine g_geti (j := 1) dX5_noteHeld_12 gc0 rfl (by decide) rfl (by decide) fl_G_59 ?_
    try simp (disch := omega) only [hB'.nd, h6]
    refine g_icmp_ge_n 94 dX5_noteHeld_15 (by decide) (by omega) (by omega) (fun c15 => ?_) (fun c15 => ?_)
    · exact absurd hir (by omega)
    · refine g_aload_n dX5_noteHeld_18 rfl ?_
      refine g_geti (j := 6) dX5_noteHeld_19 gc5 rfl (by decide) rfl (by decide) fl_G_31 ?_
      try simp (disch := omega) only [hB'.nd, h6]
      refine g_bipush (nI 24) dX5_noteHeld_22 kb_24 ?_
      refine g_icmp_ge_n 94 dX5_noteHeld_24 (by decide) (by omega) (by omega) (fun c24 => ?_) (fun c24 => ?_)
      · exact absurd hw (by omega)
      · refine g_aload_n dX5_noteHeld_27 rfl ?_
        refine g_getr (j := 0) dX5_noteHeld_28 gc5 rfl (by decide) rfl (by decide) fl_G_27 ?_
        refine g_iload_n dX5_noteHeld_31 rfl ?_
        refine g_call1 dX5_noteHeld_32 clB_holderOf ml_G_64 gc0 rfl rfl (by decide) (Nat.le_of_ble_eq_true rfl) ?_
        refine SB_holderOf hB' (by omega) ?_
        refine g_ist4_3 dX5_noteHeld_35 (by decide) rfl ?_
        refine g_aload_n dX5_noteHeld_36 rfl ?_
        refine g_getr (j := 0) dX5_noteHeld_37 gc5 rfl (by decide) rfl (by decide) fl_G_27 ?_
        refine g_iload_n dX5_noteHeld_40 rfl ?_
        refine g_call1 dX5_noteHeld_41 clB_kindOf ml_G_68 gc0 rfl rfl (by decide) (Nat.le_of_ble_eq_true rfl) ?_
        refine SB_kindOf hB' (by omega) ?_
        refine g_iload_n dX5_noteHeld_44 rfl ?_
        refine g_icmp_ne_n 88 dX5_noteHeld_45 (by decide) (by omega) (by omega) (fun c45 => ?_) (fun c45 => ?_)
        · exact hskip _ (fun z => c45 z.1)
        · skip
          refine g_iload_n dX5_noteHeld_48 rfl ?_
          refine g_iconst ((-1)) dX5_noteHeld_49 ki_m1 ?_
          refine g_icmp_ne 56 dX5_noteHeld_50 (by decide) (fun c50 => ?_) (fun c50 => ?_)
          · rw [hv_open _ hd.2.2] at c50
            rw [hv_p (p := S 12 i 0) (by omega)]
            refine g_aload_n dX5_noteHeld_56 rfl ?_
            refine g_getr (j := 1) dX5_noteHeld_57 gc5 rfl (by decide) rfl (by decide) fl_G_9 ?_
            refine g_aload_n dX5_noteHeld_60 rfl ?_
            refine g_geti (j := 6) dX5_noteHeld_61 gc5 rfl (by decide) rfl (by decide) fl_G_31 ?_
            try simp (disch := omega) only [mset_ne, h6]
            refine g_iload_n dX5_noteHeld_64 rfl ?_
            refine g_iast_n dX5_noteHeld_65 (by first | rfl | assumption) (by first | decide | assumption) (by omega) (by omega) ?_
            refine g_aload_n dX5_noteHeld_66 rfl ?_
            refine g_getr (j := 2) dX5_noteHeld_67 gc5 rfl (by decide) rfl (by decide) fl_G_15 ?_
            refine g_aload_n dX5_noteHeld_70 rfl ?_
            refine g_geti (j := 6) dX5_noteHeld_71 gc5 rfl (by decide) rfl (by decide) fl_G_31 ?_
            try simp (disch := omega) only [mset_ne, h6]
            refine g_iconst (nI 1) dX5_noteHeld_74 ki_1 ?_
            refine g_iload_n dX5_noteHeld_75 rfl ?_
            refine g_ishl dX5_noteHeld_76 ?_
            refine g_iast_n dX5_noteHeld_77 (by first | rfl | assumption) (by first | decide | assumption) (by omega) (by omega) ?_
            refine g_aload_n dX5_noteHeld_78 rfl ?_
            refine g_dup dX5_noteHeld_79 rfl ?_
            refine g_geti (j := 6) dX5_noteHeld_80 gc5 rfl (by decide) rfl (by decide) fl_G_31 ?_
            try simp (disch := omega) only [mset_ne, h6]
            refine g_iconst (nI 1) dX5_noteHeld_83 ki_1 ?_
            first | refine g_iadd_n dX5_noteHeld_84 ?_ | refine g_iadd dX5_noteHeld_84 ?_
            refine g_puti (j := 6) dX5_noteHeld_85 gc5 rfl (by decide) rfl (by decide) fl_G_31 rfl (tyX5_ok 6 (by decide)) (by first | rfl | exact nar_bI _) rfl ?_
            first | refine g_incn4_2 dX5_noteHeld_88 ki_1 (by decide) rfl ?_ | refine g_incg4_2 (nI 1) dX5_noteHeld_88 ki_1 (by decide) rfl ?_
            refine g_goto 7 dX5_noteHeld_91 (by decide) ?_
            have h12 : S 12 i 0 < 8 := by omega
            refine Go_sub [some (.ref 35), some (.int (nI k)), some (.int (nI (i + 1))), none] (by simp [subL]) (ih (i + 1) (by omega) _ (hc + 1) _ (hE.tr (((EqO.set (by decide)).tr (EqO.set (by decide))).tr (EqO.set (by decide)))) (fun j hj => ?_) (hp.add ⟨c45, h12⟩) ⟨mset_at _ _ _ _, fun x hx => ?_⟩)
            · rw [mset_off (by omega), mset_ne (by decide), mset_ne (by decide)]; exact h35 j hj
            · by_cases z : x = hc
              · subst z
                refine ⟨?_, ?_⟩
                · rw [mset_ne (by decide), mset_ne (by decide), mset_at]; dsimp only; rw [if_pos rfl]
                · rw [mset_ne (by decide), mset_at]; dsimp only; rw [if_pos rfl]; rfl
              · have := hm.2 x (by omega)
                refine ⟨?_, ?_⟩
                · rw [mset_ne (by decide), mset_ne (by decide), mset_off (by omega)]; dsimp only; rw [if_neg z]; exact this.1
                · rw [mset_ne (by decide), mset_off (by omega), mset_ne (by decide)]; dsimp only; rw [if_neg z]; exact this.2
          · rw [hv_open _ hd.2.2] at c50
            refine g_goto 88 dX5_noteHeld_53 (by decide) ?_
            exact hskip _ (fun z => by omega)
/-! RINGS in the class: the costs -/
def cstR (S : BS) (d e : Nat) : Int32 := if mayB S (S 12 d 0) e = true then nI (dlv S (S 12 d 0) e) else -1
def CSr (S : BS) (M : Mm) (hc : Nat) (hl : Nat → Nat) (a b : Nat) : Prop := ∀ x y, y < hc → (x < a ∨ (x = a ∧ y < b)) → M 38 (x * 24 + y) = cstR S (hl x) (hl y)
theorem SG_noteCosts {d : Nat} {M : Mm} {S : BS} {Q : Po} {k hc : Nat} {hl : Nat → Nat} (hB : BK M S) (hH : HM S) (hp : HLp S k hc hl (S 1 0 0)) (hm : HLm S M hc hl) (h : ∀ M' mc, EqO [35, 38] M M' → (∀ j, j ≠ 7 → M' 35 j = M 35 j) → CSr S M' hc hl hc 0 → mc ≤ 9 → M' 35 7 = nI mc → (∀ a, a < hc → dlv S (S 12 (hl a) 0) (hl a) ≤ mc) → Q M' none) : Call (d + 3) mG_noteCosts [.ref 35] M Q := by
  have hw := hB.wf.nd
  have hc24 := hp.1
  refine Call_of (m := mG_noteCosts) [some (.ref 35), none, none, none, none] rfl (fun G => Nat.le_of_ble_eq_true rfl) (fun G => rfl) ?_
  refine g_aload_n dX5_noteCosts_0 rfl ?_
  refine g_iconst (nI 0) dX5_noteCosts_1 ki_0 ?_
  refine g_puti (j := 7) dX5_noteCosts_2 gc5 rfl (by decide) rfl (by decide) fl_G_35 rfl (tyX5_ok 7 (by decide)) (by first | rfl | exact nar_bI _) rfl ?_
  refine g_iconst (nI 0) dX5_noteCosts_5 ki_0 ?_
  refine g_ist5_1 dX5_noteCosts_6 (by decide) rfl ?_
  refine loop_up (P := fun a => ∀ M' mc, EqO [35, 38] M M' → (∀ j, j ≠ 7 → M' 35 j = M 35 j) → CSr S M' hc hl a 0 → mc ≤ 9 → M' 35 7 = nI mc → (∀ x, x < a → dlv S (S 12 (hl x) 0) (hl x) ≤ mc) → Go mG_noteCosts (d + 3) Q 7 [some (.ref 35), some (.int (nI a)), none, none, none] [] M') hc ?_ 0 (Nat.zero_le _) _ 0 (EqO.set (by decide)) (fun j hj => mset_off (by omega)) (fun x y _ z => absurd z (by omega)) (by omega) (mset_at _ _ _ _) (fun x hx => absurd hx (by omega))
  intro a ha iha M' mc hE h35 hcs hmc h7 hown
  have h6 : M' 35 6 = nI hc := by rw [h35 6 (by omega)]; exact hm.1
  have h36 : ∀ x, x < hc → M' 36 x = nI (hl x) := fun x hx => by rw [hE 36 (by decide)]; exact (hm.2 x hx).1
  have hB' : BK M' S := hB.eqO hE (by decide)
  refine g_iload_n dX5_noteCosts_7 rfl ?_
  refine g_aload_n dX5_noteCosts_8 rfl ?_
  refine g_geti (j := 6) dX5_noteCosts_9 gc5 rfl (by decide) rfl (by decide) fl_G_31 ?_
  try simp (disch := omega) only [h6, h36]
  refine g_icmp_ge_n 135 dX5_noteCosts_12 (by decide) (by omega) (by omega) (fun c12 => ?_) (fun c12 => ?_)
  · refine g_return dX5_noteCosts_135 rfl ?_
    rw [show a = hc by omega] at hcs hown
    exact h M' mc hE h35 hcs hmc h7 hown
  · have hla := hp.2.1 a (by omega)
    have hdk := hB.wf.dk (d := hl a) (by omega)
    have h8 := hla.2.2
    refine g_iload_n dX5_noteCosts_15 rfl ?_
    refine g_bipush (nI 24) dX5_noteCosts_16 kb_24 ?_
    refine g_icmp_ge_n 135 dX5_noteCosts_18 (by decide) (by omega) (by omega) (fun c18 => ?_) (fun c18 => ?_)
    · exact absurd hw (by omega)
    · refine g_aload_n dX5_noteCosts_21 rfl ?_
      refine g_getr (j := 0) dX5_noteCosts_22 gc5 rfl (by decide) rfl (by decide) fl_G_27 ?_
      refine g_aload_n dX5_noteCosts_25 rfl ?_
      refine g_getr (j := 1) dX5_noteCosts_26 gc5 rfl (by decide) rfl (by decide) fl_G_9 ?_
      refine g_iload_n dX5_noteCosts_29 rfl ?_
      refine g_iald_n dX5_noteCosts_30 (by first | rfl | assumption) (by first | decide | assumption) (by omega) (by omega) ?_
      try simp (disch := omega) only [h6, h36]
      refine g_call1 dX5_noteCosts_31 clB_holderOf ml_G_64 gc0 rfl rfl (by decide) (Nat.le_of_ble_eq_true rfl) ?_
      refine SB_holderOf hB' (by omega) ?_
      rw [hv_p (p := S 12 (hl a) 0) h8]
      refine g_ist5_2 dX5_noteCosts_34 (by decide) rfl ?_
      refine g_iconst (nI 0) dX5_noteCosts_35 ki_0 ?_
      refine g_ist5_3 dX5_noteCosts_36 (by decide) rfl ?_
      refine loop_up (P := fun b => ∀ M', EqO [35, 38] M M' → (∀ j, j ≠ 7 → M' 35 j = M 35 j) → CSr S M' hc hl a b → M' 35 7 = nI mc → Go mG_noteCosts (d + 3) Q 37 [some (.ref 35), some (.int (nI a)), some (.int (nI (S 12 (hl a) 0))), some (.int (nI b)), none] [] M') hc ?_ 0 (Nat.zero_le _) M' hE h35 hcs h7
      intro b hb ihb M' hE h35 hcs h7
      have h6 : M' 35 6 = nI hc := by rw [h35 6 (by omega)]; exact hm.1
      have h36 : ∀ x, x < hc → M' 36 x = nI (hl x) := fun x hx => by rw [hE 36 (by decide)]; exact (hm.2 x hx).1
      have hB' : BK M' S := hB.eqO hE (by decide)
      refine g_iload_n dX5_noteCosts_37 rfl ?_
      refine g_aload_n dX5_noteCosts_38 rfl ?_
      refine g_geti (j := 6) dX5_noteCosts_39 gc5 rfl (by decide) rfl (by decide) fl_G_31 ?_
      try simp (disch := omega) only [h6, h36, h7]
      refine g_icmp_ge_n 107 dX5_noteCosts_42 (by decide) (by omega) (by omega) (fun c42 => ?_) (fun c42 => ?_)
      · have hbc : b = hc := by omega
        subst hbc
        have hmy := hH (hl a) (by omega) h8
        have hca : M' 38 (a * 24 + a) = nI (dlv S (S 12 (hl a) 0) (hl a)) := by
          rw [hcs a a (by omega) (Or.inr ⟨rfl, by omega⟩)]
          unfold cstR
          rw [if_pos hmy]
        have hdl := dlv_le hB.wf (q := S 12 (hl a) 0) (d := hl a) (by omega)
        refine g_aload_n dX5_noteCosts_107 rfl ?_
        refine g_aload_n dX5_noteCosts_108 rfl ?_
        refine g_geti (j := 7) dX5_noteCosts_109 gc5 rfl (by decide) rfl (by decide) fl_G_35 ?_
        try simp (disch := omega) only [h7, hca]
        refine g_aload_n dX5_noteCosts_112 rfl ?_
        refine g_getr (j := 3) dX5_noteCosts_113 gc5 rfl (by decide) rfl (by decide) fl_G_18 ?_
        refine g_iload_n dX5_noteCosts_116 rfl ?_
        refine g_bipush (nI 24) dX5_noteCosts_117 kb_24 ?_
        first | refine g_imul_n dX5_noteCosts_119 ?_ | refine g_imul dX5_noteCosts_119 ?_
        refine g_iload_n dX5_noteCosts_120 rfl ?_
        first | refine g_iadd_n dX5_noteCosts_121 ?_ | refine g_iadd dX5_noteCosts_121 ?_
        refine g_iald_n dX5_noteCosts_122 (by first | rfl | assumption) (by first | decide | assumption) (by omega) (by omega) ?_
        try simp (disch := omega) only [h7, hca]
        refine g_mmax dX5_noteCosts_123 mm_G_78 ms_max ti_java_lang_Math mc_max (Nat.le_of_ble_eq_true rfl) ?_
        rw [show (if nI mc < nI (dlv S (S 12 (hl a) 0) (hl a)) then nI (dlv S (S 12 (hl a) 0) (hl a)) else nI mc) = nI (if mc < dlv S (S 12 (hl a) 0) (hl a) then dlv S (S 12 (hl a) 0) (hl a) else mc) from ?_]
        · generalize hmx : (if mc < dlv S (S 12 (hl a) 0) (hl a) then dlv S (S 12 (hl a) 0) (hl a) else mc) = mx
          have hmx2 : mc ≤ mx ∧ dlv S (S 12 (hl a) 0) (hl a) ≤ mx ∧ mx ≤ 9 := by
            rw [← hmx]
            split <;> omega
          refine g_puti (j := 7) dX5_noteCosts_126 gc5 rfl (by decide) rfl (by decide) fl_G_35 rfl (tyX5_ok 7 (by decide)) (by first | rfl | exact nar_bI _) rfl ?_
          first | refine g_incn5_1 dX5_noteCosts_129 ki_1 (by decide) rfl ?_ | refine g_incg5_1 (nI 1) dX5_noteCosts_129 ki_1 (by decide) rfl ?_
          refine g_goto 7 dX5_noteCosts_132 (by decide) ?_
          refine Go_sub [some (.ref 35), some (.int (nI (a + 1))), none, none, none] (by simp [subL]) (iha (by omega) _ mx (hE.tr (EqO.set (by decide))) (fun j hj => by rw [mset_off (by omega)]; exact h35 j hj) (fun x y hy z => ?_) hmx2.2.2 (mset_at _ _ _ _) (fun x hx => ?_))
          · rw [mset_ne (by decide)]
            exact hcs x y hy (by omega)
          · by_cases z : x = a
            · rw [z]; exact hmx2.2.1
            · exact Nat.le_trans (hown x (by omega)) hmx2.1
        · by_cases z : mc < dlv S (S 12 (hl a) 0) (hl a)
          · rw [if_pos z, if_pos ((nI_ltN (by omega) (by omega)).mpr z)]
          · rw [if_neg z, if_neg (fun y => z ((nI_ltN (by omega) (by omega)).mp y))]
      · have hlb := hp.2.1 b (by omega)
        have hst : ∀ v x, v = cstR S (hl a) (hl b) → Go mG_noteCosts (d + 3) Q 100 [some (.ref 35), some (.int (nI a)), some (.int (nI (S 12 (hl a) 0))), some (.int (nI b)), some (.int (bI x))] [.int v, .int (nI (a * 24 + b)), .ref 38] M' := by
          intro v x hv
          refine g_iast_n dX5_noteCosts_100 (by first | rfl | assumption) (by first | decide | assumption) (by omega) (by omega) ?_
          first | refine g_incn5_3 dX5_noteCosts_101 ki_1 (by decide) rfl ?_ | refine g_incg5_3 (nI 1) dX5_noteCosts_101 ki_1 (by decide) rfl ?_
          refine g_goto 37 dX5_noteCosts_104 (by decide) ?_
          refine Go_sub [some (.ref 35), some (.int (nI a)), some (.int (nI (S 12 (hl a) 0))), some (.int (nI (b + 1))), none] (by simp [subL]) (ihb (by omega) _ (hE.tr (EqO.set (by decide))) (fun j hj => by rw [mset_ne (by decide)]; exact h35 j hj) (fun x y hy z => ?_) (by rw [mset_ne (by decide)]; exact h7))
          by_cases e : x = a ∧ y = b
          · obtain ⟨rfl, rfl⟩ := e
            rw [mset_at]
            exact hv
          · rw [mset_off (by omega)]
            exact hcs x y hy (by omega)
        refine g_iload_n dX5_noteCosts_45 rfl ?_
        refine g_bipush (nI 24) dX5_noteCosts_46 kb_24 ?_
        refine g_icmp_ge_n 107 dX5_noteCosts_48 (by decide) (by omega) (by omega) (fun c48 => ?_) (fun c48 => ?_)
        · exact absurd hw (by omega)
        · refine g_aload_n dX5_noteCosts_51 rfl ?_
          refine g_getr (j := 0) dX5_noteCosts_52 gc5 rfl (by decide) rfl (by decide) fl_G_27 ?_
          refine g_iload_n dX5_noteCosts_55 rfl ?_
          refine g_aload_n dX5_noteCosts_56 rfl ?_
          refine g_getr (j := 1) dX5_noteCosts_57 gc5 rfl (by decide) rfl (by decide) fl_G_9 ?_
          refine g_iload_n dX5_noteCosts_60 rfl ?_
          refine g_iald_n dX5_noteCosts_61 (by first | rfl | assumption) (by first | decide | assumption) (by omega) (by omega) ?_
          try simp (disch := omega) only [h6, h36, h7]
          refine g_call2 dX5_noteCosts_62 clB_mayHold ml_G_71 gc0 rfl rfl (by decide) (Nat.le_of_ble_eq_true rfl) ?_
          refine SB_mayHold hB' (by omega) (by omega) ?_
          refine g_ist5_4 dX5_noteCosts_65 (by decide) rfl ?_
          refine g_aload_n dX5_noteCosts_67 rfl ?_
          refine g_getr (j := 3) dX5_noteCosts_68 gc5 rfl (by decide) rfl (by decide) fl_G_18 ?_
          refine g_iload_n dX5_noteCosts_71 rfl ?_
          refine g_bipush (nI 24) dX5_noteCosts_72 kb_24 ?_
          first | refine g_imul_n dX5_noteCosts_74 ?_ | refine g_imul dX5_noteCosts_74 ?_
          refine g_iload_n dX5_noteCosts_75 rfl ?_
          first | refine g_iadd_n dX5_noteCosts_76 ?_ | refine g_iadd dX5_noteCosts_76 ?_
          refine g_iload dX5_noteCosts_77 rfl ?_
          refine g_if_eq_b 99 dX5_noteCosts_79 (by decide) (fun c79 => ?_) (fun c79 => ?_)
          · refine g_iconst ((-1)) dX5_noteCosts_99 ki_m1 ?_
            exact hst (-1) _ (by unfold cstR; rw [if_neg (by rw [c79]; decide)])
          · refine g_aload_n dX5_noteCosts_82 rfl ?_
            refine g_getr (j := 0) dX5_noteCosts_83 gc5 rfl (by decide) rfl (by decide) fl_G_27 ?_
            refine g_iload_n dX5_noteCosts_86 rfl ?_
            refine g_aload_n dX5_noteCosts_87 rfl ?_
            refine g_getr (j := 1) dX5_noteCosts_88 gc5 rfl (by decide) rfl (by decide) fl_G_9 ?_
            refine g_iload_n dX5_noteCosts_91 rfl ?_
            refine g_iald_n dX5_noteCosts_92 (by first | rfl | assumption) (by first | decide | assumption) (by omega) (by omega) ?_
            try simp (disch := omega) only [h36]
            refine g_call2 dX5_noteCosts_93 clB_dislikeOf ml_G_75 gc0 rfl rfl (by decide) (Nat.le_of_ble_eq_true rfl) ?_
            rw [← hv_p (p := S 12 (hl a) 0) h8]
            refine SB_dislikeOf hB' (by omega) (by omega) ?_
            rw [hv_p (p := S 12 (hl a) 0) h8]
            refine g_goto 100 dX5_noteCosts_96 (by decide) ?_
            exact hst _ _ (by unfold cstR; rw [if_pos c79])
/-! RINGS in the class: a ring tried -/
theorem t_sub {x y : Int32} {a b : Int} (hx : x.toInt = a) (hy : y.toInt = b) (h : -1000000 ≤ a - b ∧ a - b ≤ 1000000) : (x - y).toInt = a - b := by
  rw [Int32.toInt_sub, hx, hy]
  exact Int.bmod_eq_of_le (by omega) (by omega)
theorem t_add {x y : Int32} {a b : Int} (hx : x.toInt = a) (hy : y.toInt = b) (h : -1000000 ≤ a + b ∧ a + b ≤ 1000000) : (x + y).toInt = a + b := by
  rw [Int32.toInt_add, hx, hy]
  exact Int.bmod_eq_of_le (by omega) (by omega)
theorem t_mul {x y : Int32} {a b : Int} (hx : x.toInt = a) (hy : y.toInt = b) (h : -1000000 ≤ a * b ∧ a * b ≤ 1000000) : (x * y).toInt = a * b := by
  rw [Int32.toInt_mul, hx, hy]
  exact Int.bmod_eq_of_le (by omega) (by omega)
theorem t_nI {x : Int32} {n : Nat} (h : x.toInt = (n : Int)) (hn : n < 2 ^ 31) : x = nI n := Int32.toInt_inj.mp (by rw [h, nI_toInt hn])
def RG (S : BS) (M : Mm) (k hc : Nat) (hl : Nat → Nat) (mc : Nat) : Prop := HLp S k hc hl (S 1 0 0) ∧ HLm S M hc hl ∧ CSr S M hc hl hc 0 ∧ M 35 7 = nI mc ∧ mc ≤ 9 ∧ ∀ a, a < hc → dlv S (S 12 (hl a) 0) (hl a) ≤ mc
theorem RG.off {S : BS} {M M' : Mm} {k hc : Nat} {hl : Nat → Nat} {mc : Nat} (h : RG S M k hc hl mc) (h1 : ∀ j, j = 6 ∨ j = 7 → M' 35 j = M 35 j) (h2 : ∀ i, i = 36 ∨ i = 37 ∨ i = 38 → M' i = M i) : RG S M' k hc hl mc := by
  obtain ⟨a, ⟨b, b2⟩, c, d, e⟩ := h
  refine ⟨a, ⟨by rw [h1 6 (by omega)]; exact b, fun i hi => ?_⟩, fun x y hy z => ?_, by rw [h1 7 (by omega)]; exact d, e⟩
  · rw [h2 36 (by omega), h2 37 (by omega)]; exact b2 i hi
  · rw [h2 38 (by omega)]; exact c x y hy z
theorem SG_costOf {d : Nat} {M : Mm} {S : BS} {Q : Po} {k hc mc x y : Nat} {hl : Nat → Nat} (hR : RG S M k hc hl mc) (hw : S 1 0 0 ≤ 24) (hx : x < hc) (hy : y < hc) (h : Q M (some (.int (cstR S (hl x) (hl y))))) : Call (d + 1) mG_costOf [.ref 35, .int (nI x), .int (nI y)] M Q := by
  have hc24 := hR.1.1
  have hcs := hR.2.2.1 x y hy (Or.inl hx)
  refine Call_of (m := mG_costOf) [some (.ref 35), some (.int (nI x)), some (.int (nI y)), none] rfl (fun G => Nat.le_of_ble_eq_true rfl) (fun G => rfl) ?_
  refine g_iload_n dX5_costOf_0 rfl ?_
  refine g_if_lt_n 24 dX5_costOf_1 (by decide) (by omega) ?_
  refine g_iload_n dX5_costOf_4 rfl ?_
  refine g_bipush (nI 24) dX5_costOf_5 kb_24 ?_
  refine g_icmp_ge_n 24 dX5_costOf_7 (by decide) (by omega) (by omega) (fun c7 => ?_) (fun c7 => ?_)
  · exact absurd hw (by omega)
  · refine g_iload_n dX5_costOf_10 rfl ?_
    refine g_if_lt_n 24 dX5_costOf_11 (by decide) (by omega) ?_
    refine g_iload_n dX5_costOf_14 rfl ?_
    refine g_bipush (nI 24) dX5_costOf_15 kb_24 ?_
    refine g_icmp_ge_n 24 dX5_costOf_17 (by decide) (by omega) (by omega) (fun c17 => ?_) (fun c17 => ?_)
    · exact absurd hw (by omega)
    · skip
      refine g_iconst (nI 1) dX5_costOf_20 ki_1 ?_
      refine g_goto 25 dX5_costOf_21 (by decide) ?_
      refine g_ist4_3 dX5_costOf_25 (by decide) rfl ?_
      refine g_iload_n dX5_costOf_26 rfl ?_
      refine g_if_eq_tt 44 dX5_costOf_27 (by decide) ?_
      refine g_aload_n dX5_costOf_30 rfl ?_
      refine g_getr (j := 3) dX5_costOf_31 gc5 rfl (by decide) rfl (by decide) fl_G_18 ?_
      refine g_iload_n dX5_costOf_34 rfl ?_
      refine g_bipush (nI 24) dX5_costOf_35 kb_24 ?_
      first | refine g_imul_n dX5_costOf_37 ?_ | refine g_imul dX5_costOf_37 ?_
      refine g_iload_n dX5_costOf_38 rfl ?_
      first | refine g_iadd_n dX5_costOf_39 ?_ | refine g_iadd dX5_costOf_39 ?_
      refine g_iald_n dX5_costOf_40 (by first | rfl | assumption) (by first | decide | assumption) (by omega) (by omega) ?_
      try simp (disch := omega) only [hcs]
      refine g_goto 45 dX5_costOf_41 (by decide) ?_
      refine g_ireturn dX5_costOf_45 rfl (by first | rfl | exact nar_bI _) ?_
      exact h
theorem SG_dutyOfRow {d : Nat} {M : Mm} {S : BS} {Q : Po} {k hc mc p z : Nat} {hl : Nat → Nat} (hR : RG S M k hc hl mc) (hw : S 1 0 0 ≤ 24) (hp : p < 4) (hz : M 39 p = nI z) (hzc : z < hc) (h : Q M (some (.int (nI (hl z))))) : Call (d + 1) mG_dutyOfRow [.ref 35, .int (nI p)] M Q := by
  have hc24 := hR.1.1
  have h36 := (hR.2.1.2 z hzc).1
  refine Call_of (m := mG_dutyOfRow) [some (.ref 35), some (.int (nI p))] rfl (fun G => Nat.le_of_ble_eq_true rfl) (fun G => rfl) ?_
  refine g_iload_n dX5_dutyOfRow_0 rfl ?_
  refine g_if_lt_n 9 dX5_dutyOfRow_1 (by decide) (by omega) ?_
  refine g_iload_n dX5_dutyOfRow_4 rfl ?_
  refine g_iconst (nI 4) dX5_dutyOfRow_5 ki_4 ?_
  refine g_icmp_lt_n 11 dX5_dutyOfRow_6 (by decide) (by omega) (by omega) (fun c6 => ?_) (fun c6 => ?_)
  · refine g_aload_n dX5_dutyOfRow_11 rfl ?_
    refine g_getr (j := 4) dX5_dutyOfRow_12 gc5 rfl (by decide) rfl (by decide) fl_G_21 ?_
    refine g_iload_n dX5_dutyOfRow_15 rfl ?_
    refine g_iald_n dX5_dutyOfRow_16 (by first | rfl | assumption) (by first | decide | assumption) (by omega) (by omega) ?_
    try simp (disch := omega) only [hz, h36]
    refine g_if_lt_n 45 dX5_dutyOfRow_17 (by decide) (by omega) ?_
    refine g_aload_n dX5_dutyOfRow_20 rfl ?_
    refine g_getr (j := 4) dX5_dutyOfRow_21 gc5 rfl (by decide) rfl (by decide) fl_G_21 ?_
    refine g_iload_n dX5_dutyOfRow_24 rfl ?_
    refine g_iald_n dX5_dutyOfRow_25 (by first | rfl | assumption) (by first | decide | assumption) (by omega) (by omega) ?_
    try simp (disch := omega) only [hz, h36]
    refine g_bipush (nI 24) dX5_dutyOfRow_26 kb_24 ?_
    refine g_icmp_ge_n 45 dX5_dutyOfRow_28 (by decide) (by omega) (by omega) (fun c28 => ?_) (fun c28 => ?_)
    · exact absurd hw (by omega)
    · refine g_aload_n dX5_dutyOfRow_31 rfl ?_
      refine g_getr (j := 1) dX5_dutyOfRow_32 gc5 rfl (by decide) rfl (by decide) fl_G_9 ?_
      refine g_aload_n dX5_dutyOfRow_35 rfl ?_
      refine g_getr (j := 4) dX5_dutyOfRow_36 gc5 rfl (by decide) rfl (by decide) fl_G_21 ?_
      refine g_iload_n dX5_dutyOfRow_39 rfl ?_
      refine g_iald_n dX5_dutyOfRow_40 (by first | rfl | assumption) (by first | decide | assumption) (by omega) (by omega) ?_
      try simp (disch := omega) only [hz, h36]
      refine g_iald_n dX5_dutyOfRow_41 (by first | rfl | assumption) (by first | decide | assumption) (by omega) (by omega) ?_
      try simp (disch := omega) only [hz, h36]
      refine g_goto 46 dX5_dutyOfRow_42 (by decide) ?_
      refine g_ireturn dX5_dutyOfRow_46 rfl (by first | rfl | exact nar_bI _) ?_
      exact h
  · exact absurd hp (by omega)
def BM (S : BS) (M : Mm) (P : Nat → RW → Prop) (m : Nat) (b : RW) (g : Nat) : Prop := M 35 8 = nI m ∧ M 35 9 = nI g ∧ m ≤ 4 ∧ g ≤ 100 ∧ (m = 0 → g = 0) ∧ (0 < m → (g : Int) = gnR S b m) ∧ (∀ i, i < m → M 40 i = nI (b i) ∧ b i < 24) ∧ BstP S P m b
theorem SG_isBetter {d : Nat} {M : Mm} {S : BS} {Q : Po} {P : Nat → RW → Prop} {k hc mc n m g G z : Nat} {b : RW} {hl : Nat → Nat} (hR : RG S M k hc hl mc) (hw : S 1 0 0 ≤ 24) (hM : BM S M P m b g) (hG : 0 < G ∧ G ≤ 100) (hn : 2 ≤ n ∧ n ≤ 4) (hz : M 39 0 = nI z) (hzc : z < hc) (h : Q M (some (.int (bI (decide (g < G ∨ (G = g ∧ (n < m ∨ (n = m ∧ hl z < b 0)))))))) ) : Call (d + 2) mG_isBetter [.ref 35, .int (nI G), .int (nI n)] M Q := by
  obtain ⟨h8, h9, hm4, hg, h0, hgn, h40, hb⟩ := hM
  have hc24 := hR.1.1
  have hl24 := (hR.1.2.1 z hzc).1
  refine Call_of (m := mG_isBetter) [some (.ref 35), some (.int (nI G)), some (.int (nI n))] rfl (fun G => Nat.le_of_ble_eq_true rfl) (fun G => rfl) ?_
  refine g_iload_n dX5_isBetter_0 rfl ?_
  refine g_aload_n dX5_isBetter_1 rfl ?_
  refine g_geti (j := 9) dX5_isBetter_2 gc5 rfl (by decide) rfl (by decide) fl_G_41 ?_
  try simp (disch := omega) only [h8, h9]
  refine g_icmp_eq_n 22 dX5_isBetter_5 (by decide) (by omega) (by omega) (fun c5 => ?_) (fun c5 => ?_)
  · refine g_iload_n dX5_isBetter_22 rfl ?_
    refine g_aload_n dX5_isBetter_23 rfl ?_
    refine g_geti (j := 8) dX5_isBetter_24 gc5 rfl (by decide) rfl (by decide) fl_G_38 ?_
    try simp (disch := omega) only [h8, h9]
    refine g_icmp_eq_n 46 dX5_isBetter_27 (by decide) (by omega) (by omega) (fun c27 => ?_) (fun c27 => ?_)
    · have x40 := (h40 0 (by omega)).1
      have y40 := (h40 0 (by omega)).2
      refine g_aload_n dX5_isBetter_46 rfl ?_
      refine g_iconst (nI 0) dX5_isBetter_47 ki_0 ?_
      refine g_call1 dX5_isBetter_48 clG_dutyOfRow ml_G_93 gc5 rfl rfl (by decide) (Nat.le_of_ble_eq_true rfl) ?_
      refine SG_dutyOfRow hR hw (by omega) hz hzc ?_
      refine g_aload_n dX5_isBetter_51 rfl ?_
      refine g_getr (j := 5) dX5_isBetter_52 gc5 rfl (by decide) rfl (by decide) fl_G_24 ?_
      refine g_iconst (nI 0) dX5_isBetter_55 ki_0 ?_
      refine g_iald_n dX5_isBetter_56 (by first | rfl | assumption) (by first | decide | assumption) (by omega) (by omega) ?_
      try simp (disch := omega) only [x40]
      refine g_icmp_ge_n 64 dX5_isBetter_57 (by decide) (by omega) (by omega) (fun c57 => ?_) (fun c57 => ?_)
      · refine g_iconst (nI 0) dX5_isBetter_64 ki_0 ?_
        refine g_ireturn dX5_isBetter_65 rfl (by first | rfl | exact nar_bI _) ?_
        exact qb_f h (decide_eq_false (by omega))
      · refine g_iconst (nI 1) dX5_isBetter_60 ki_1 ?_
        refine g_goto 65 dX5_isBetter_61 (by decide) ?_
        refine g_ireturn dX5_isBetter_65 rfl (by first | rfl | exact nar_bI _) ?_
        exact qb_t h (decide_eq_true (by omega))
    · skip
      refine g_iload_n dX5_isBetter_30 rfl ?_
      refine g_aload_n dX5_isBetter_31 rfl ?_
      refine g_geti (j := 8) dX5_isBetter_32 gc5 rfl (by decide) rfl (by decide) fl_G_38 ?_
      try simp (disch := omega) only [h8, h9]
      refine g_icmp_ge_n 42 dX5_isBetter_35 (by decide) (by omega) (by omega) (fun c35 => ?_) (fun c35 => ?_)
      · refine g_iconst (nI 0) dX5_isBetter_42 ki_0 ?_
        refine g_goto 65 dX5_isBetter_43 (by decide) ?_
        refine g_ireturn dX5_isBetter_65 rfl (by first | rfl | exact nar_bI _) ?_
        exact qb_f h (decide_eq_false (by omega))
      · refine g_iconst (nI 1) dX5_isBetter_38 ki_1 ?_
        refine g_goto 65 dX5_isBetter_39 (by decide) ?_
        refine g_ireturn dX5_isBetter_65 rfl (by first | rfl | exact nar_bI _) ?_
        exact qb_t h (decide_eq_true (by omega))
  · skip
    refine g_iload_n dX5_isBetter_8 rfl ?_
    refine g_aload_n dX5_isBetter_9 rfl ?_
    refine g_geti (j := 9) dX5_isBetter_10 gc5 rfl (by decide) rfl (by decide) fl_G_41 ?_
    try simp (disch := omega) only [h8, h9]
    refine g_icmp_le_n 20 dX5_isBetter_13 (by decide) (by omega) (by omega) (fun c13 => ?_) (fun c13 => ?_)
    · refine g_iconst (nI 0) dX5_isBetter_20 ki_0 ?_
      refine g_ireturn dX5_isBetter_21 rfl (by first | rfl | exact nar_bI _) ?_
      exact qb_f h (decide_eq_false (by omega))
    · refine g_iconst (nI 1) dX5_isBetter_16 ki_1 ?_
      refine g_goto 21 dX5_isBetter_17 (by decide) ?_
      refine g_ireturn dX5_isBetter_21 rfl (by first | rfl | exact nar_bI _) ?_
      exact qb_t h (decide_eq_true (by omega))
/-! RINGS in the class: tryRing -/
theorem BM_keep {S : BS} {M : Mm} {P P' : Nat → RW → Prop} {m g : Nat} {b : RW} (h : BM S M P m b g) (hp : ∀ s q, P' s q → ringOK S q s → P s q ∨ gnR S q s ≤ 0 ∨ (m ≠ 0 ∧ (sameR m b s q ∨ btR S m b s q))) (h2 : ringOK S b m → P m b → P' m b) : BM S M P' m b g := by
  obtain ⟨h8, h9, hm4, hg, h0, hgn, h40, hb⟩ := h
  exact ⟨h8, h9, hm4, hg, h0, hgn, h40, Bst_keep hb hp h2⟩
theorem try_no {S : BS} {M : Mm} {P : Nat → RW → Prop} {m g n G : Nat} {b r : RW} (h : BM S M P m b g) (hn : 0 < n) (hG : (G : Int) = gnR S r n) (hG0 : 0 < G) (hP : ∀ s q, P s q → ringOK S q s → s = n → q 0 = r 0 → lexR n q r) (hno : ¬ (g < G ∨ (G = g ∧ (n < m ∨ (n = m ∧ r 0 < b 0))))) : BM S M (fun s q => P s q ∨ sameR n r s q) m b g := by
  refine BM_keep h (fun s q hs hr => ?_) (fun _ h => Or.inl h)
  rcases hs with hs | hs
  · exact Or.inl hs
  · obtain ⟨h8, h9, hm4, hg, h0, hgn, h40, hb⟩ := h
    have hm0 : m ≠ 0 := fun z => by have := h0 z; omega
    have hgn := hgn (by omega)
    refine Or.inr (Or.inr ⟨hm0, Or.inr (bt_same (s := n) (q := r) ?_ hs hn)⟩)
    unfold btR
    by_cases z : G = g
    · refine Or.inr ⟨by omega, ?_⟩
      by_cases y : m < n
      · exact Or.inl y
      · have e : m = n := by omega
        refine Or.inr ⟨e, ?_⟩
        by_cases x : b 0 < r 0
        · exact ⟨0, by omega, fun i hi => absurd hi (by omega), x⟩
        · rcases hb with ⟨b1, _⟩ | ⟨b1, b2, b3, b4⟩
          · exact absurd b1 hm0
          · rw [e]
            exact hP m b b3 b1 e (by omega)
    · exact Or.inl (by omega)
theorem try_yes {S : BS} {M M' : Mm} {P : Nat → RW → Prop} {m g n G : Nat} {b r : RW} (h : BM S M P m b g) (hr : ringOK S r n) (hw : S 1 0 0 ≤ 24) (hG : (G : Int) = gnR S r n) (hG0 : 0 < G ∧ G ≤ 100) (hyes : g < G ∨ (G = g ∧ (n < m ∨ (n = m ∧ r 0 < b 0)))) (m8 : M' 35 8 = nI n) (m9 : M' 35 9 = nI G) (m40 : ∀ i, i < n → M' 40 i = nI (r i)) : BM S M' (fun s q => P s q ∨ sameR n r s q) n r G := by
  obtain ⟨h8, h9, hm4, hg, h0, hgn, h40, hb⟩ := h
  have hn := hr.1
  refine ⟨m8, m9, hr.2.1, hG0.2, fun z => by omega, fun _ => hG, fun i hi => ⟨m40 i hi, by have := (hr.2.2.1 i hi).1; omega⟩, Bst_new hb hr (by omega) ?_ (fun u p hu _ => ?_) (Or.inr ⟨rfl, fun _ _ => rfl⟩)⟩
  · by_cases hm0 : m = 0
    · exact Or.inl hm0
    · have hgn := hgn (by omega)
      refine Or.inr ?_
      unfold btR
      rcases hyes with z | ⟨z, z2⟩
      · exact Or.inl (by omega)
      · refine Or.inr ⟨by omega, ?_⟩
        rcases z2 with z2 | ⟨z2, z3⟩
        · exact Or.inl z2
        · exact Or.inr ⟨z2, 0, by omega, fun i hi => absurd hi (by omega), z3⟩
  · rcases hu with hu | hu
    · exact Or.inl hu
    · exact Or.inr (Or.inr hu)
theorem BM.off {S : BS} {M M' : Mm} {P : Nat → RW → Prop} {m g : Nat} {b : RW} (h : BM S M P m b g) (h1 : ∀ j, j = 8 ∨ j = 9 → M' 35 j = M 35 j) (h2 : M' 40 = M 40) : BM S M' P m b g := by
  obtain ⟨h8, h9, hm4, hg, h0, hgn, h40, hb⟩ := h
  exact ⟨by rw [h1 8 (by omega)]; exact h8, by rw [h1 9 (by omega)]; exact h9, hm4, hg, h0, hgn, fun i hi => by rw [h2]; exact h40 i hi, hb⟩
theorem SG_tryRing {d : Nat} {M : Mm} {S : BS} {Q : Po} {P : Nat → RW → Prop} {k hc mc n m g : Nat} {b : RW} {hl x : Nat → Nat} {v : Int32} (hR : RG S M k hc hl mc) (hW : WF S) (hM : BM S M P m b g) (hn : 2 ≤ n ∧ n ≤ 4) (hx : ∀ i, i < n → M 39 i = nI (x i) ∧ x i < hc) (hrow : rowOK S (fun i => hl (x i)) n) (hv : v.toInt = pgR S (fun i => hl (x i)) n) (hpb : -40 ≤ pgR S (fun i => hl (x i)) n ∧ pgR S (fun i => hl (x i)) n ≤ 40) (hP : ∀ s q, P s q → ringOK S q s → s = n → q 0 = hl (x 0) → lexR n q (fun i => hl (x i))) (h : ∀ M' m' b' g', EqO [35, 40] M M' → (∀ j, j ≠ 8 → j ≠ 9 → M' 35 j = M 35 j) → BM S M' (fun s q => P s q ∨ sameR n (fun i => hl (x i)) s q) m' b' g' → Q M' none) : Call (d + 3) mG_tryRing [.ref 35, .int (nI n), .int v] M Q := by
  have hw := hW.nd
  have hx0 := hx 0 (by omega)
  have hxl := hx (n - 1) (by omega)
  have hl24 := (hR.1.2.1 (x (n - 1)) hxl.2).1
  have hdl := dlv_le hW (q := S 12 (hl (x 0)) 0) (d := hl (x (n - 1))) (by omega)
  refine Call_of (m := mG_tryRing) [some (.ref 35), some (.int (nI n)), some (.int v), none, none, none] rfl (fun G => Nat.le_of_ble_eq_true rfl) (fun G => rfl) ?_
  refine g_iload_n dX5_tryRing_0 rfl ?_
  refine g_iconst (nI 2) dX5_tryRing_1 ki_2 ?_
  refine g_icmp_lt_n 10 dX5_tryRing_2 (by decide) (by omega) (by omega) (fun c2 => ?_) (fun c2 => ?_)
  · exact absurd hn (by omega)
  · refine g_iload_n dX5_tryRing_5 rfl ?_
    refine g_iconst (nI 4) dX5_tryRing_6 ki_4 ?_
    refine g_icmp_le_n 11 dX5_tryRing_7 (by decide) (by omega) (by omega) (fun c7 => ?_) (fun c7 => ?_)
    · refine g_aload_n dX5_tryRing_11 rfl ?_
      refine g_aload_n dX5_tryRing_12 rfl ?_
      refine g_getr (j := 4) dX5_tryRing_13 gc5 rfl (by decide) rfl (by decide) fl_G_21 ?_
      refine g_iconst (nI 0) dX5_tryRing_16 ki_0 ?_
      refine g_iald_n dX5_tryRing_17 (by first | rfl | assumption) (by first | decide | assumption) (by omega) (by omega) ?_
      try simp (disch := omega) only [hx0.1, hxl.1]
      refine g_aload_n dX5_tryRing_18 rfl ?_
      refine g_getr (j := 4) dX5_tryRing_19 gc5 rfl (by decide) rfl (by decide) fl_G_21 ?_
      refine g_iload_n dX5_tryRing_22 rfl ?_
      refine g_iconst (nI 1) dX5_tryRing_23 ki_1 ?_
      first | refine g_isub_n dX5_tryRing_24 (by omega) ?_ | refine g_isub dX5_tryRing_24 ?_
      refine g_iald_n dX5_tryRing_25 (by first | rfl | assumption) (by first | decide | assumption) (by omega) (by omega) ?_
      try simp (disch := omega) only [hx0.1, hxl.1]
      refine g_call2 dX5_tryRing_26 clG_costOf ml_G_51 gc5 rfl rfl (by decide) (Nat.le_of_ble_eq_true rfl) ?_
      refine SG_costOf hR hw hx0.2 hxl.2 ?_
      unfold cstR
      by_cases hmy : mayB S (S 12 (hl (x 0)) 0) (hl (x (n - 1))) = true
      · rw [if_pos hmy]
        have hgn : (v - nI (dlv S (S 12 (hl (x 0)) 0) (hl (x (n - 1))))).toInt = gnR S (fun i => hl (x i)) n := by
          have z := t_sub hv (nI_toInt (n := dlv S (S 12 (hl (x 0)) 0) (hl (x (n - 1)))) (by omega)) (by omega)
          exact z
        have hgb : gnR S (fun i => hl (x i)) n ≤ 100 := by unfold gnR lstR; omega
        generalize dlv S (S 12 (hl (x 0)) 0) (hl (x (n - 1))) = L at hgn hdl ⊢
        refine g_ist6_3 dX5_tryRing_29 (by decide) rfl ?_
        refine g_iload_n dX5_tryRing_30 rfl ?_
        refine g_iload_n dX5_tryRing_31 rfl ?_
        refine g_isub dX5_tryRing_32 ?_
        refine g_ist6_4 dX5_tryRing_33 (by decide) rfl ?_
        generalize v - nI L = w at hgn ⊢
        refine g_iload_n dX5_tryRing_35 rfl ?_
        refine g_iconst ((-1)) dX5_tryRing_36 ki_m1 ?_
        refine g_icmp_eq 55 dX5_tryRing_37 (by decide) (fun c37 => ?_) (fun c37 => ?_)
        · exact absurd c37 (nI_m1 (by omega))
        · refine g_iload dX5_tryRing_40 rfl ?_
          refine g_if_le 55 dX5_tryRing_42 (by decide) (fun c42 => ?_) (fun c42 => ?_)
          · refine g_return dX5_tryRing_55 rfl ?_
            refine h M m b g EqO.rf (fun j _ _ => rfl) (BM_keep hM (fun s q hs hr => ?_) (fun _ h => Or.inl h))
            rcases hs with hs | hs
            · exact Or.inl hs
            · refine Or.inr (Or.inl ?_)
              rw [Int32.le_iff_toInt_le, hgn] at c42
              obtain ⟨e, hs⟩ := hs
              subst e
              rw [← gn_cong hs (by omega)]
              exact c42
          · have hpos : 0 < gnR S (fun i => hl (x i)) n := by
              rw [← hgn]
              have := Int32.lt_iff_toInt_lt.mp (Int32.not_le.mp (by simpa using c42))
              exact this
            obtain ⟨G, hG⟩ : ∃ G : Nat, (G : Int) = gnR S (fun i => hl (x i)) n := ⟨(gnR S (fun i => hl (x i)) n).toNat, by omega⟩
            have ew : w = nI G := t_nI (by rw [hgn, hG]) (by omega)
            subst ew
            refine g_aload_n dX5_tryRing_45 rfl ?_
            refine g_iload dX5_tryRing_46 rfl ?_
            refine g_iload_n dX5_tryRing_48 rfl ?_
            refine g_call2 dX5_tryRing_49 clG_isBetter ml_G_90 gc5 rfl rfl (by decide) (Nat.le_of_ble_eq_true rfl) ?_
            refine SG_isBetter hR hw hM (G := G) (by omega) hn hx0.1 hx0.2 ?_
            by_cases hbt : g < G ∨ (G = g ∧ (n < m ∨ (n = m ∧ hl (x 0) < b 0)))
            · rw [decide_eq_true hbt]
              refine g_if_ne_tt 56 dX5_tryRing_52 (by decide) ?_
              refine g_aload_n dX5_tryRing_56 rfl ?_
              refine g_iload dX5_tryRing_57 rfl ?_
              refine g_puti (j := 9) dX5_tryRing_59 gc5 rfl (by decide) rfl (by decide) fl_G_41 rfl (tyX5_ok 9 (by decide)) (by first | rfl | exact nar_bI _) rfl ?_
              refine g_aload_n dX5_tryRing_62 rfl ?_
              refine g_iload_n dX5_tryRing_63 rfl ?_
              refine g_puti (j := 8) dX5_tryRing_64 gc5 rfl (by decide) rfl (by decide) fl_G_38 rfl (tyX5_ok 8 (by decide)) (by first | rfl | exact nar_bI _) rfl ?_
              refine g_iconst (nI 0) dX5_tryRing_67 ki_0 ?_
              refine g_ist6_5 dX5_tryRing_68 (by decide) rfl ?_
              refine loop_up (P := fun i => ∀ M', EqO [40] (mset (mset M 35 9 (nI G)) 35 8 (nI n)) M' → (∀ j, j < i → M' 40 j = nI (hl (x j))) → Go mG_tryRing (d + 3) Q 70 [some (.ref 35), some (.int (nI n)), some (.int v), some (.int (nI L)), some (.int (nI G)), some (.int (nI i))] [] M') n ?_ 0 (Nat.zero_le _) _ EqO.rf (fun j hj => absurd hj (by omega))
              intro i hi ih M' hE hbs
              have e35 : M' 35 = (mset (mset M 35 9 (nI G)) 35 8 (nI n)) 35 := hE 35 (by decide)
              have e35' : ∀ j, j ≠ 8 → j ≠ 9 → M' 35 j = M 35 j := fun j j8 j9 => by rw [e35, mset_off (by omega), mset_off (by omega)]
              have hR' : RG S M' k hc hl mc := hR.off (fun j hj => e35' j (by omega) (by omega)) (fun y hy => by rw [hE y (by simp; omega), mset_ne (by omega), mset_ne (by omega)])
              refine g_iload dX5_tryRing_70 rfl ?_
              refine g_iload_n dX5_tryRing_72 rfl ?_
              refine g_icmp_ge_n 95 dX5_tryRing_73 (by decide) (by omega) (by omega) (fun c73 => ?_) (fun c73 => ?_)
              · refine g_return dX5_tryRing_95 rfl ?_
                obtain rfl : i = n := by omega
                refine h M' i (fun i => hl (x i)) G (((EqO.set (by decide)).tr (EqO.set (by decide))).tr (hE.sub (by decide))) e35' (try_yes hM ⟨hn.1, hn.2, hrow, hmy⟩ hw hG (by omega) hbt ?_ ?_ hbs)
                · rw [e35, mset_at]
                · rw [e35, mset_off (by omega), mset_at]
              · have hxi := hx i (by omega)
                refine g_aload_n dX5_tryRing_76 rfl ?_
                refine g_getr (j := 5) dX5_tryRing_77 gc5 rfl (by decide) rfl (by decide) fl_G_24 ?_
                refine g_iload dX5_tryRing_80 rfl ?_
                refine g_aload_n dX5_tryRing_82 rfl ?_
                refine g_iload dX5_tryRing_83 rfl ?_
                refine g_call1 dX5_tryRing_85 clG_dutyOfRow ml_G_93 gc5 rfl rfl (by decide) (Nat.le_of_ble_eq_true rfl) ?_
                refine SG_dutyOfRow hR' hw (by omega) (by rw [hE 39 (by decide), mset_ne (by decide), mset_ne (by decide)]; exact hxi.1) hxi.2 ?_
                refine g_iast_n dX5_tryRing_88 (by first | rfl | assumption) (by first | decide | assumption) (by omega) (by omega) ?_
                first | refine g_incn6_5 dX5_tryRing_89 ki_1 (by decide) rfl ?_ | refine g_incg6_5 (nI 1) dX5_tryRing_89 ki_1 (by decide) rfl ?_
                refine g_goto 70 dX5_tryRing_92 (by decide) ?_
                refine ih (by omega) _ (hE.tr (EqO.set (by decide))) (fun j hj => ?_)
                by_cases e : j = i
                · rw [e, mset_at]
                · rw [mset_off (by omega)]; exact hbs j (by omega)
            · rw [decide_eq_false hbt]
              refine g_if_ne_ff 56 dX5_tryRing_52 (by decide) ?_
              refine g_return dX5_tryRing_55 rfl ?_
              exact h M m b g EqO.rf (fun j _ _ => rfl) (try_no hM (by omega) hG (by omega) hP hbt)
      · rw [if_neg hmy]
        refine g_ist6_3 dX5_tryRing_29 (by decide) rfl ?_
        refine g_iload_n dX5_tryRing_30 rfl ?_
        refine g_iload_n dX5_tryRing_31 rfl ?_
        refine g_isub dX5_tryRing_32 ?_
        refine g_ist6_4 dX5_tryRing_33 (by decide) rfl ?_
        refine g_iload_n dX5_tryRing_35 rfl ?_
        refine g_iconst ((-1)) dX5_tryRing_36 ki_m1 ?_
        refine g_icmp_eq 55 dX5_tryRing_37 (by decide) (fun c37 => ?_) (fun c37 => ?_)
        · refine g_return dX5_tryRing_55 rfl ?_
          refine h M m b g EqO.rf (fun j _ _ => rfl) (BM_keep hM (fun s q hs hr => ?_) (fun _ h => Or.inl h))
          rcases hs with hs | hs
          · exact Or.inl hs
          · exfalso
            obtain ⟨e, hs⟩ := hs
            subst e
            have h4 := hr.2.2.2
            rw [← hs 0 (by omega), ← hs (n - 1) (by omega)] at h4
            exact hmy h4
        · exact absurd rfl c37
    · exact absurd hn (by omega)
/-! RINGS in the class: what has been seen; the bits of those in the row -/
def bef (S : BS) (k n : Nat) (r : RW) (s : Nat) (q : RW) : Prop := S 11 (q 0) 0 < k ∨ (S 11 (q 0) 0 = k ∧ ((∃ j, j < s ∧ j < n ∧ (∀ i, i < j → q i = r i) ∧ q j < r j) ∨ (s < n ∧ ∀ i, i < s → q i = r i)))
def pfx (S : BS) (k n : Nat) (r : RW) (s : Nat) (q : RW) : Prop := S 11 (q 0) 0 = k ∧ n ≤ s ∧ ∀ i, i < n → q i = r i
theorem nxt_nn {S : BS} {r : RW} {k : Nat} : 0 ≤ nxtR S r k := by
  unfold nxtR
  split <;> omega
theorem lst_nn {S : BS} {r : RW} {k : Nat} : 0 ≤ lstR S r k := by unfold lstR; omega
theorem pg_grow {S : BS} {q : RW} {mc n : Nat} : ∀ t, (∀ i, n ≤ i → i < n + t → ownR S q i ≤ mc) → pgR S q (n + t) ≤ pgR S q n + ((t * mc : Nat) : Int)
  | 0, _ => by simp
  | t + 1, h => by
    have h1 := pg_grow t (fun i hi hj => h i hi (by omega))
    have h2 := h (n + t) (by omega) (by omega)
    have h3 := nxt_nn (S := S) (r := q) (k := n + t)
    rw [show n + (t + 1) = n + t + 1 by omega, pgR, Nat.succ_mul]
    omega
theorem bt_lit : ∀ y, y < 8 → (nI 1 <<< (nI y &&& 31)).toBitVec = BitVec.twoPow 32 y := by decide +kernel
theorem bt_one : ∀ y, y < 8 → ∀ z, z < 8 → (nI 1 <<< (nI y &&& 31)).toBitVec.getLsbD z = decide (y = z) := by decide +kernel
theorem bt_and (h : Int32) {y : Nat} (hy : y < 8) : h &&& (nI 1 <<< (nI y &&& 31)) = 0 ↔ h.toBitVec.getLsbD y = false := by
  rw [← Int32.toBitVec_inj, Int32.toBitVec_and, bt_lit y hy, BitVec.and_twoPow]
  cases hb : h.toBitVec.getLsbD y with
  | false => exact ⟨fun _ => rfl, fun _ => rfl⟩
  | true =>
    refine ⟨fun z => ?_, fun z => by cases z⟩
    exfalso
    have z : BitVec.twoPow 32 y = 0#32 := z
    have hz : ∀ y, y < 8 → BitVec.twoPow 32 y ≠ 0#32 := by decide +kernel
    exact hz y hy z
def BTr (S : BS) (hb : Int32) (r : RW) (n : Nat) : Prop := ∀ y, y < 8 → (hb.toBitVec.getLsbD y = true ↔ ∃ j, j < n ∧ S 12 (r j) 0 = y)
theorem BTr.ext {S : BS} {hb : Int32} {r q : RW} {n : Nat} (h : BTr S hb r n) (hq : ∀ i, i < n → q i = r i) (h8 : S 12 (q n) 0 < 8) : BTr S (hb ||| bitR S (q n)) q (n + 1) := by
  intro y hy
  unfold bitR
  rw [Int32.toBitVec_or, BitVec.getLsbD_or, bt_one _ h8 y hy, Bool.or_eq_true, h y hy, decide_eq_true_eq]
  constructor
  · rintro (⟨j, hj, e⟩ | e)
    · exact ⟨j, by omega, by rw [hq j hj]; exact e⟩
    · exact ⟨n, by omega, e⟩
  · rintro ⟨j, hj, e⟩
    by_cases z : j = n
    · subst z; exact Or.inr e
    · exact Or.inl ⟨j, by omega, by rw [← hq j (by omega)]; exact e⟩
theorem BTr.one {S : BS} {r : RW} (h8 : S 12 (r 0) 0 < 8) : BTr S (bitR S (r 0)) r 1 := by
  intro y hy
  unfold bitR
  rw [bt_one _ h8 y hy, decide_eq_true_eq]
  constructor
  · intro e; exact ⟨0, by omega, e⟩
  · rintro ⟨j, hj, e⟩
    obtain rfl : j = 0 := by omega
    exact e
/-- a held duty of the kind stands in the list -/
theorem HLp.find {S : BS} {k hc : Nat} {hl : Nat → Nat} (h : HLp S k hc hl (S 1 0 0)) {q : RW} {s i : Nat} (hr : rowOK S q s) (hi : i < s) (hk : S 11 (q 0) 0 = k) : ∃ z, z < hc ∧ q i = hl z := by
  obtain ⟨h1, h2, h3, _⟩ := hr i hi
  obtain ⟨z, hz, e⟩ := h.2.2.2 (q i) h1 (h3.trans hk) h2
  exact ⟨z, hz, e.symm⟩
theorem prune {S : BS} {k hc mc n s : Nat} {hl : Nat → Nat} {r q : RW} (hp : HLp S k hc hl (S 1 0 0)) (ho : ∀ a, a < hc → dlv S (S 12 (hl a) 0) (hl a) ≤ mc) (hq : ringOK S q s) (hx : pfx S k n r s q) : gnR S q s ≤ pgR S r n + (((4 - n) * mc : Nat) : Int) := by
  obtain ⟨hk, hns, hpx⟩ := hx
  have h1 := pg_grow (S := S) (q := q) (mc := mc) (n := n) (s - n) (fun i h1 h2 => by
    obtain ⟨z, hz, e⟩ := hp.find hq.2.2.1 (i := i) (by omega) hk
    unfold ownR
    rw [e]
    have := ho z hz
    omega)
  rw [show n + (s - n) = s by omega, pg_cong (r := q) (q := r) hpx] at h1
  have h2 := lst_nn (S := S) (r := q) (k := s)
  have h3 : (s - n) * mc ≤ (4 - n) * mc := Nat.mul_le_mul_right _ (by have := hq.2.1; omega)
  unfold gnR
  omega
theorem HLp.mono {S : BS} {k hc b : Nat} {hl : Nat → Nat} (h : HLp S k hc hl b) {i j : Nat} (hi : i < hc) (hj : j < hc) : hl i < hl j ↔ i < j := by
  constructor
  · intro z
    rcases Nat.lt_trichotomy i j with y | y | y
    · exact y
    · rw [y] at z; omega
    · have := h.2.2.1 j i y hi; omega
  · intro z; exact h.2.2.1 i j z hj
def Pm (S : BS) (k n : Nat) (r : RW) (hl : Nat → Nat) (y s : Nat) (q : RW) : Prop := (bef S k n r s q ∨ sameR n r s q) ∨ (S 11 (q 0) 0 = k ∧ n < s ∧ (∀ i, i < n → q i = r i) ∧ ∃ z, z < y ∧ q n = hl z)
theorem bef_same {S : BS} {k n s : Nat} {r q : RW} (h : bef S k n r s q) (g : s = n) (hk : S 11 (r 0) 0 = k) (h0 : q 0 = r 0) : lexR n q r := by
  subst g
  rcases h with h | ⟨_, ⟨j, h1, h2, h3, h4⟩ | ⟨h1, _⟩⟩
  · rw [h0, hk] at h; omega
  · exact ⟨j, h1, h3, h4⟩
  · omega
theorem Pm_in {S : BS} {k hc n y s : Nat} {hl : Nat → Nat} {r q p : RW} (hp : HLp S k hc hl (S 1 0 0)) (hy : y < hc) (hpr : ∀ i, i < n → p i = r i) (hpn : p n = hl y) (hq : ringOK S q s) (h : bef S k (n + 1) p s q) : Pm S k n r hl y s q := by
  rcases h with h | ⟨hk, ⟨j, h1, h2, h3, h4⟩ | ⟨h1, h2⟩⟩
  · exact Or.inl (Or.inl (Or.inl h))
  · by_cases e : j = n
    · subst e
      obtain ⟨z, hz, e1⟩ := hp.find hq.2.2.1 (i := j) h1 hk
      rw [hpn, e1, hp.mono hz hy] at h4
      exact Or.inr ⟨hk, h1, fun i hi => (h3 i hi).trans (hpr i hi), z, h4, e1⟩
    · exact Or.inl (Or.inl (Or.inr ⟨hk, Or.inl ⟨j, h1, by omega, fun i hi => (h3 i hi).trans (hpr i (by omega)), by rw [← hpr j (by omega)]; exact h4⟩⟩))
  · by_cases e : s = n
    · exact Or.inl (Or.inr ⟨e.symm, fun i hi => by rw [h2 i (by omega), hpr i hi]⟩)
    · exact Or.inl (Or.inl (Or.inr ⟨hk, Or.inr ⟨by omega, fun i hi => (h2 i hi).trans (hpr i (by omega))⟩⟩))
theorem Pm_out {S : BS} {k hc n y s : Nat} {hl : Nat → Nat} {r q p : RW} (hp : HLp S k hc hl (S 1 0 0)) (hy : y < hc) (hpr : ∀ i, i < n → p i = r i) (hpn : p n = hl y) (hn : 0 < n) (hrk : S 11 (r 0) 0 = k) (h : Pm S k n r hl (y + 1) s q) : bef S k (n + 1) p s q ∨ pfx S k (n + 1) p s q := by
  rcases h with (h | ⟨h1, h2⟩) | ⟨hk, h1, h2, z, h3, h4⟩
  · left
    rcases h with h | ⟨hk, ⟨j, h1, h2, h3, h4⟩ | ⟨h1, h2⟩⟩
    · exact Or.inl h
    · exact Or.inr ⟨hk, Or.inl ⟨j, h1, by omega, fun i hi => (h3 i hi).trans (hpr i (by omega)).symm, by rw [hpr j h2]; exact h4⟩⟩
    · exact Or.inr ⟨hk, Or.inr ⟨by omega, fun i hi => (h2 i hi).trans (hpr i (by omega)).symm⟩⟩
  · left
    refine Or.inr ⟨by rw [← h2 0 hn]; exact hrk, Or.inr ⟨by omega, fun i hi => by rw [← h2 i (by omega), hpr i (by omega)]⟩⟩
  · by_cases e : z = y
    · right
      refine ⟨hk, by omega, fun i hi => ?_⟩
      by_cases e2 : i = n
      · rw [e2, h4, e, hpn]
      · rw [h2 i (by omega), hpr i (by omega)]
    · left
      exact Or.inr ⟨hk, Or.inl ⟨n, h1, by omega, fun i hi => by rw [h2 i hi, hpr i hi], by rw [h4, hpn]; exact (hp.mono (by omega) hy).mpr (by omega)⟩⟩
/-! RINGS in the class: grow -/
def GrS (S : BS) (k hc mc : Nat) (hl : Nat → Nat) (D n : Nat) : Prop := ∀ (M : Mm) (Q : Po) (x : Nat → Nat) (r : RW) (v hb : Int32) (m : Nat) (b : RW) (g : Nat), (r = fun i => hl (x i)) → RG S M k hc hl mc → BM S M (bef S k n r) m b g → (∀ i, i < n → M 39 i = nI (x i) ∧ x i < hc) → rowOK S r n → v.toInt = pgR S r n → (-(10 * (n : Int)) ≤ pgR S r n ∧ pgR S r n ≤ 10 * (n : Int)) → BTr S hb r n → (∀ M' m' b' g', EqO [35, 39, 40] M M' → (∀ j, j ≠ 8 → j ≠ 9 → M' 35 j = M 35 j) → (∀ i, i < n → M' 39 i = M 39 i) → BM S M' (fun s q => bef S k n r s q ∨ pfx S k n r s q) m' b' g' → Q M' none) → Call D mG_grow [.ref 35, .int (nI n), .int v, .int hb] M Q
theorem Pm_out0 {S : BS} {k hc n y s : Nat} {hl : Nat → Nat} {r q p : RW} (hp : HLp S k hc hl (S 1 0 0)) (hy : y < hc) (hpr : ∀ i, i < n → p i = r i) (hpn : p n = hl y) (hn : 0 < n) (hrk : S 11 (r 0) 0 = k) (h : Pm S k n r hl y s q) : bef S k (n + 1) p s q := by
  rcases h with (h | ⟨h1, h2⟩) | ⟨hk, h1, h2, z, h3, h4⟩
  · rcases h with h | ⟨hk, ⟨j, h1, h2, h3, h4⟩ | ⟨h1, h2⟩⟩
    · exact Or.inl h
    · exact Or.inr ⟨hk, Or.inl ⟨j, h1, by omega, fun i hi => (h3 i hi).trans (hpr i (by omega)).symm, by rw [hpr j h2]; exact h4⟩⟩
    · exact Or.inr ⟨hk, Or.inr ⟨by omega, fun i hi => (h2 i hi).trans (hpr i (by omega)).symm⟩⟩
  · exact Or.inr ⟨by rw [← h2 0 hn]; exact hrk, Or.inr ⟨by omega, fun i hi => by rw [← h2 i (by omega), hpr i (by omega)]⟩⟩
  · exact Or.inr ⟨hk, Or.inl ⟨n, h1, by omega, fun i hi => by rw [h2 i hi, hpr i hi], by rw [h4, hpn]; exact (hp.mono (by omega) hy).mpr h3⟩⟩
def GbS (S : BS) (k hc mc : Nat) (hl : Nat → Nat) (D n : Nat) : Prop := ∀ (M : Mm) (Q : Po) (x : Nat → Nat) (r : RW) (v hb : Int32) (m : Nat) (b : RW) (g : Nat), (r = fun i => hl (x i)) → RG S M k hc hl mc → BM S M (fun s q => bef S k n r s q ∨ sameR n r s q) m b g → (∀ i, i < n → M 39 i = nI (x i) ∧ x i < hc) → rowOK S r n → v.toInt = pgR S r n → (-(10 * (n : Int)) ≤ pgR S r n ∧ pgR S r n ≤ 10 * (n : Int)) → BTr S hb r n → (∀ M' m' b' g', EqO [35, 39, 40] M M' → (∀ j, j ≠ 8 → j ≠ 9 → M' 35 j = M 35 j) → (∀ i, i < n → M' 39 i = M 39 i) → BM S M' (fun s q => bef S k n r s q ∨ pfx S k n r s q) m' b' g' → Q M' none) → Call D mG_growByEach [.ref 35, .int (nI n), .int v, .int hb] M Q
theorem SG_growByEachS {d : Nat} {S : BS} {k hc mc n : Nat} {hl : Nat → Nat} (hW : WF S) (hH : HM S) (hn : 1 ≤ n ∧ n < 4) (ihg : GrS S k hc mc hl (d + 2) (n + 1)) : GbS S k hc mc hl (d + 3) n := by
  intro M Q x r v hb m b g hr hR hM hx hrow hv hpb hbt h
  have hw := hW.nd
  have hc24 := hR.1.1
  have hri : ∀ i, r i = hl (x i) := fun i => by rw [hr]
  have hx0 := hx 0 (by omega)
  have hx1 := hx (n - 1) (by omega)
  have hrk : S 11 (r 0) 0 = k := by rw [hri]; exact (hR.1.2.1 (x 0) hx0.2).2.1
  have hbm0 : BM S M (Pm S k n r hl (x 0 + 1)) m b g := by
    refine BM_keep hM (fun s q hs hq => ?_) (fun _ h2 => Or.inl h2)
    rcases hs with hs | ⟨hk, h1, h2, z, h3, h4⟩
    · exact Or.inl hs
    · exfalso
      have h5 := ((hq.2.2.1 n h1).2.2.2.1 (by omega)).1
      rw [h2 0 (by omega), hri, h4] at h5
      have hz : z < hc := by omega
      have := (hR.1.mono hx0.2 hz).mp h5
      omega
  have h390 := hx0.1
  refine Call_of (m := mG_growByEach) [some (.ref 35), some (.int (nI n)), some (.int v), some (.int hb), none, none, none] rfl (fun G => Nat.le_of_ble_eq_true rfl) (fun G => rfl) ?_
  refine g_iload_n dX5_growByEach_0 rfl ?_
  refine g_iconst (nI 1) dX5_growByEach_1 ki_1 ?_
  refine g_icmp_lt_n 10 dX5_growByEach_2 (by decide) (by omega) (by omega) (fun c2 => ?_) (fun c2 => ?_)
  · exact absurd hn.1 (by omega)
  · refine g_iload_n dX5_growByEach_5 rfl ?_
    refine g_iconst (nI 4) dX5_growByEach_6 ki_4 ?_
    refine g_icmp_lt_n 11 dX5_growByEach_7 (by decide) (by omega) (by omega) (fun c7 => ?_) (fun c7 => ?_)
    · refine g_aload_n dX5_growByEach_11 rfl ?_
      refine g_getr (j := 4) dX5_growByEach_12 gc5 rfl (by decide) rfl (by decide) fl_G_21 ?_
      refine g_iload_n dX5_growByEach_15 rfl ?_
      refine g_iconst (nI 1) dX5_growByEach_16 ki_1 ?_
      first | refine g_isub_n dX5_growByEach_17 (by omega) ?_ | refine g_isub dX5_growByEach_17 ?_
      refine g_iald_n dX5_growByEach_18 (by first | rfl | assumption) (by first | decide | assumption) (by omega) (by omega) ?_
      try simp (disch := omega) only [hx1.1, h390]
      refine g_ist7_4 dX5_growByEach_19 (by decide) rfl ?_
      refine g_aload_n dX5_growByEach_21 rfl ?_
      refine g_getr (j := 4) dX5_growByEach_22 gc5 rfl (by decide) rfl (by decide) fl_G_21 ?_
      refine g_iconst (nI 0) dX5_growByEach_25 ki_0 ?_
      refine g_iald_n dX5_growByEach_26 (by first | rfl | assumption) (by first | decide | assumption) (by omega) (by omega) ?_
      try simp (disch := omega) only [hx1.1, h390]
      refine g_iconst (nI 1) dX5_growByEach_27 ki_1 ?_
      first | refine g_iadd_n dX5_growByEach_28 ?_ | refine g_iadd dX5_growByEach_28 ?_
      refine g_ist7_5 dX5_growByEach_29 (by decide) rfl ?_
      refine loop_up (P := fun y => x 0 < y → ∀ M2 m2 b2 g2, EqO [35, 39, 40] M M2 → (∀ j, j ≠ 8 → j ≠ 9 → M2 35 j = M 35 j) → (∀ i, i < n → M2 39 i = M 39 i) → BM S M2 (Pm S k n r hl y) m2 b2 g2 → Go mG_growByEach (d + 3) Q 31 [some (.ref 35), some (.int (nI n)), some (.int v), some (.int hb), some (.int (nI (x (n - 1)))), some (.int (nI y)), none] [] M2) hc ?_ (x 0 + 1) hx0.2 (Nat.lt_succ_self _) M m b g EqO.rf (fun j _ _ => rfl) (fun i _ => rfl) hbm0
      intro y hy ihl hxy M2 m2 b2 g2 hE2 h352 h392 hM2
      have hR2 : RG S M2 k hc hl mc := hR.off (fun j hj => h352 j (by omega) (by omega)) (fun i hi => hE2 i (by simp; omega))
      have h6 : M2 35 6 = nI hc := hR2.2.1.1
      refine g_iload dX5_growByEach_31 rfl ?_
      refine g_aload_n dX5_growByEach_33 rfl ?_
      refine g_geti (j := 6) dX5_growByEach_34 gc5 rfl (by decide) rfl (by decide) fl_G_31 ?_
      try simp (disch := omega) only [h6]
      refine g_icmp_ge_n 121 dX5_growByEach_37 (by decide) (by omega) (by omega) (fun c37 => ?_) (fun c37 => ?_)
      · refine g_return dX5_growByEach_121 rfl ?_
        refine h M2 m2 b2 g2 hE2 h352 h392 (BM_keep hM2 (fun s q hs hq => ?_) (fun h1 h2 => ?_))
        · rcases hs with hs | ⟨hs1, hs2, hs3⟩
          · exact Or.inl (Or.inl (Or.inl hs))
          · by_cases e : s = n
            · exact Or.inl (Or.inl (Or.inr ⟨e.symm, fun i hi => (hs3 i hi).symm⟩))
            · obtain ⟨z, hz, e1⟩ := hR.1.find hq.2.2.1 (i := n) (by omega) hs1
              exact Or.inl (Or.inr ⟨hs1, by omega, hs3, z, by omega, e1⟩)
        · rcases h2 with (h2 | ⟨h2, h3⟩) | ⟨h2, h3, h4, _⟩
          · exact Or.inl h2
          · exact Or.inr ⟨by rw [← h3 0 (by omega)]; exact hrk, by omega, fun i hi => (h3 i hi).symm⟩
          · exact Or.inr ⟨h2, by omega, h4⟩
      · refine g_iload dX5_growByEach_40 rfl ?_
        refine g_bipush (nI 24) dX5_growByEach_42 kb_24 ?_
        refine g_icmp_ge_n 121 dX5_growByEach_44 (by decide) (by omega) (by omega) (fun c44 => ?_) (fun c44 => ?_)
        · exact absurd hw (by omega)
        · have hyc : y < hc := by omega
          have hly := hR.1.2.1 y hyc
          have h37 : M2 37 y = bitR S (hl y) := (hR2.2.1.2 y hyc).2
          have hskip : (∀ s q, ringOK S q s → n < s → (∀ i, i < n → q i = r i) → q n = hl y → False) → ∀ w, Go mG_growByEach (d + 3) Q 115 [some (.ref 35), some (.int (nI n)), some (.int v), some (.int hb), some (.int (nI (x (n - 1)))), some (.int (nI y)), some (.int w)] [] M2 := by
            intro hno w
            first | refine g_incn7_5 dX5_growByEach_115 ki_1 (by decide) rfl ?_ | refine g_incg7_5 (nI 1) dX5_growByEach_115 ki_1 (by decide) rfl ?_
            refine g_goto 31 dX5_growByEach_118 (by decide) ?_
            refine Go_sub [some (.ref 35), some (.int (nI n)), some (.int v), some (.int hb), some (.int (nI (x (n - 1)))), some (.int (nI (y + 1))), none] (by simp [subL]) (ihl (by omega) (by omega) M2 m2 b2 g2 hE2 h352 h392 (BM_keep hM2 (fun s q hs hq => ?_) (fun _ h2 => ?_)))
            · rcases hs with hs | ⟨h1, h2, h3, z, h4, h5⟩
              · exact Or.inl (Or.inl hs)
              · by_cases e : z = y
                · rw [e] at h5
                  exact absurd (hno s q hq h2 h3 h5) id
                · exact Or.inl (Or.inr ⟨h1, h2, h3, z, by omega, h5⟩)
            · rcases h2 with h2 | ⟨h1, h2, h3, z, h4, h5⟩
              · exact Or.inl h2
              · exact Or.inr ⟨h1, h2, h3, z, by omega, h5⟩
          refine g_aload_n dX5_growByEach_47 rfl ?_
          refine g_iload dX5_growByEach_48 rfl ?_
          refine g_iload dX5_growByEach_50 rfl ?_
          refine g_call2 dX5_growByEach_52 clG_costOf ml_G_51 gc5 rfl rfl (by decide) (Nat.le_of_ble_eq_true rfl) ?_
          refine SG_costOf hR2 hw hyc hx1.2 ?_
          have hcs : cstR S (hl y) (hl (x (n - 1))) = if mayB S (S 12 (hl y) 0) (hl (x (n - 1))) = true then nI (dlv S (S 12 (hl y) 0) (hl (x (n - 1)))) else -1 := rfl
          refine g_ist7_6 dX5_growByEach_55 (by decide) rfl ?_
          refine g_iload_n dX5_growByEach_57 rfl ?_
          refine g_aload_n dX5_growByEach_58 rfl ?_
          refine g_getr (j := 2) dX5_growByEach_59 gc5 rfl (by decide) rfl (by decide) fl_G_15 ?_
          refine g_iload dX5_growByEach_62 rfl ?_
          refine g_iald_n dX5_growByEach_64 (by first | rfl | assumption) (by first | decide | assumption) (by omega) (by omega) ?_
          try simp (disch := omega) only [h37]
          refine g_iand dX5_growByEach_65 ?_
          refine g_if_ne 115 dX5_growByEach_66 (by decide) (fun c66 => ?_) (fun c66 => ?_)
          · refine hskip (fun s q hq h1 h2 h3 => ?_) _
            unfold bitR at c66
            rw [bt_and hb hly.2.2, Bool.not_eq_false, hbt _ hly.2.2] at c66
            obtain ⟨j, hj, e⟩ := c66
            have := (hq.2.2.1 n h1).2.2.2.2 j hj
            rw [h2 j hj, h3] at this
            exact this e
          · by_cases hmy : mayB S (S 12 (hl y) 0) (hl (x (n - 1))) = true
            · rw [if_pos hmy] at hcs
              rw [hcs]
              have hLb := dlv_le hW (q := S 12 (hl y) 0) (d := hl (x (n - 1))) (by have := (hR.1.2.1 (x (n - 1)) hx1.2).1; omega)
              have hOb := dlv_le hW (q := S 12 (hl y) 0) (d := hl y) (by omega)
              have hmyy := hH (hl y) (by omega) hly.2.2
              unfold bitR at c66
              rw [bt_and hb hly.2.2] at c66
              refine g_iload dX5_growByEach_69 rfl ?_
              refine g_iconst ((-1)) dX5_growByEach_71 ki_m1 ?_
              refine g_icmp_ne 78 dX5_growByEach_72 (by decide) (fun c72 => ?_) (fun c72 => ?_)
              · skip
                refine g_aload_n dX5_growByEach_78 rfl ?_
                refine g_getr (j := 4) dX5_growByEach_79 gc5 rfl (by decide) rfl (by decide) fl_G_21 ?_
                refine g_iload_n dX5_growByEach_82 rfl ?_
                refine g_iload dX5_growByEach_83 rfl ?_
                refine g_iast_n dX5_growByEach_85 (by first | rfl | assumption) (by first | decide | assumption) (by omega) (by omega) ?_
                refine g_aload_n dX5_growByEach_86 rfl ?_
                refine g_iload_n dX5_growByEach_87 rfl ?_
                refine g_iconst (nI 1) dX5_growByEach_88 ki_1 ?_
                first | refine g_iadd_n dX5_growByEach_89 ?_ | refine g_iadd dX5_growByEach_89 ?_
                refine g_iload_n dX5_growByEach_90 rfl ?_
                refine g_aload_n dX5_growByEach_91 rfl ?_
                refine g_iload dX5_growByEach_92 rfl ?_
                refine g_iload dX5_growByEach_94 rfl ?_
                refine g_call2 dX5_growByEach_96 clG_costOf ml_G_51 gc5 rfl rfl (by decide) (Nat.le_of_ble_eq_true rfl) ?_
                have hR3 : RG S (mset M2 39 n (nI y)) k hc hl mc := hR2.off (fun j _ => mset_off (by omega)) (fun i hi => mset_ne (by omega))
                refine SG_costOf hR3 hw hyc hyc ?_
                rw [show cstR S (hl y) (hl y) = nI (dlv S (S 12 (hl y) 0) (hl y)) from if_pos hmyy]
                have h373 : mset M2 39 n (nI y) 37 y = bitR S (hl y) := by rw [mset_ne (by decide)]; exact h37
                refine g_iadd dX5_growByEach_99 ?_
                refine g_iload dX5_growByEach_100 rfl ?_
                refine g_isub dX5_growByEach_102 ?_
                refine g_iload_n dX5_growByEach_103 rfl ?_
                refine g_aload_n dX5_growByEach_104 rfl ?_
                refine g_getr (j := 2) dX5_growByEach_105 gc5 rfl (by decide) rfl (by decide) fl_G_15 ?_
                refine g_iload dX5_growByEach_108 rfl ?_
                refine g_iald_n dX5_growByEach_110 (by first | rfl | assumption) (by first | decide | assumption) (by omega) (by omega) ?_
                try simp (disch := omega) only [h373]
                refine g_ior dX5_growByEach_111 ?_
                refine g_call3 dX5_growByEach_112 clG_grow ml_G_55 gc5 rfl rfl (by decide) (Nat.le_of_ble_eq_true rfl) ?_
                obtain ⟨p, hp⟩ : ∃ p : RW, p = fun i => hl (if i = n then y else x i) := ⟨_, rfl⟩
                have hpr : ∀ i, i < n → p i = r i := fun i hi => by rw [hp, hri]; dsimp only; rw [if_neg (by omega)]
                have hpn : p n = hl y := by rw [hp]; dsimp only; rw [if_pos rfl]
                have hpg : pgR S p (n + 1) = pgR S r n + ((dlv S (S 12 (hl y) 0) (hl y) : Nat) : Int) - ((dlv S (S 12 (hl y) 0) (hl (x (n - 1))) : Nat) : Int) := by
                  rw [pgR, pg_cong hpr]
                  unfold ownR nxtR
                  rw [if_neg (by omega), hpn, hpr (n - 1) (by omega), hri]
                refine ihg (mset M2 39 n (nI y)) _ (fun i => if i = n then y else x i) p _ _ m2 b2 g2 hp hR3 (BM_keep (hM2.off (fun j _ => mset_off (by omega)) (mset_ne (by decide))) (fun s q hs hq => Or.inl (Pm_in hR.1 hyc hpr hpn hq hs)) (fun _ h2 => Pm_out0 hR.1 hyc hpr hpn hn.1 hrk h2)) (fun i hi => ?_) (fun i hi => ?_) (by rw [hpg]; exact t_sub (t_add hv (nI_toInt (by omega)) (by omega)) (nI_toInt (by omega)) (by omega)) (by rw [hpg]; omega) (by have z := BTr.ext hbt hpr (by rw [hpn]; exact hly.2.2); rw [hpn] at z; exact z) (fun M' m' b' g' hE' h35' h39' hBM' => ?_)
                · by_cases e : i = n
                  · subst e; rw [mset_at, if_pos rfl]; exact ⟨rfl, hyc⟩
                  · rw [mset_off (by omega), if_neg e, h392 i (by omega)]; exact hx i (by omega)
                · by_cases e : i = n
                  · subst e
                    rw [hpn]
                    refine ⟨hly.1, hly.2.2, ?_, fun _ => ⟨?_, ?_⟩, fun j hj z => ?_⟩
                    · rw [hpr 0 (by omega), hrk]; exact hly.2.1
                    · rw [hpr 0 (by omega), hri]; exact (hR.1.mono hx0.2 hyc).mpr hxy
                    · rw [hpr (i - 1) (by omega), hri]; exact hmy
                    · rw [hpr j hj] at z
                      have := (hbt _ hly.2.2).mpr ⟨j, hj, z⟩
                      rw [c66] at this
                      cases this
                  · obtain ⟨z1, z2, z3, z4, z5⟩ := hrow i (by omega)
                    rw [hpr i (by omega), hpr 0 (by omega)]
                    refine ⟨z1, z2, z3, fun h0 => ?_, fun j hj => ?_⟩
                    · rw [hpr (i - 1) (by omega)]; exact z4 h0
                    · rw [hpr j (by omega)]; exact z5 j hj
                · skip
                  first | refine g_incn7_5 dX5_growByEach_115 ki_1 (by decide) rfl ?_ | refine g_incg7_5 (nI 1) dX5_growByEach_115 ki_1 (by decide) rfl ?_
                  refine g_goto 31 dX5_growByEach_118 (by decide) ?_
                  refine Go_sub [some (.ref 35), some (.int (nI n)), some (.int v), some (.int hb), some (.int (nI (x (n - 1)))), some (.int (nI (y + 1))), none] (by simp [subL]) (ihl (by omega) (by omega) M' m' b' g' (hE2.tr ((EqO.set (by decide)).tr hE')) (fun j j8 j9 => by rw [h35' j j8 j9, mset_off (by omega)]; exact h352 j j8 j9) (fun i hi => by rw [h39' i (by omega), mset_off (by omega)]; exact h392 i hi) (BM_keep hBM' (fun s q hs hq => Or.inl (Pm_out hR.1 hyc hpr hpn hn.1 hrk hs)) (fun h1 h2 => ?_)))
                  rcases h2 with h2 | ⟨h2, h3, h4⟩
                  · rcases Pm_in hR.1 hyc hpr hpn h1 h2 with z | ⟨z1, z2, z3, z, z4, z5⟩
                    · exact Or.inl z
                    · exact Or.inr ⟨z1, z2, z3, z, by omega, z5⟩
                  · exact Or.inr ⟨h2, by omega, fun i hi => by rw [h4 i (by omega), hpr i hi], y, by omega, by rw [h4 n (by omega), hpn]⟩
              · exact absurd c72 (fun z => nI_m1 (by omega) z)
            · rw [if_neg hmy] at hcs
              rw [hcs]
              refine g_iload dX5_growByEach_69 rfl ?_
              refine g_iconst ((-1)) dX5_growByEach_71 ki_m1 ?_
              refine g_icmp_ne 78 dX5_growByEach_72 (by decide) (fun c72 => ?_) (fun c72 => ?_)
              · exact absurd rfl c72
              · refine g_goto 115 dX5_growByEach_75 (by decide) ?_
                refine hskip (fun s q hq h1 h2 h3 => ?_) _
                have := ((hq.2.2.1 n h1).2.2.2.1 (by omega)).2
                rw [h3, h2 (n - 1) (by omega), hri] at this
                exact hmy this
    · exact absurd hn.2 (by omega)
theorem SG_growS {d : Nat} {S : BS} {k hc mc n : Nat} {hl : Nat → Nat} (hW : WF S) (hn : 1 ≤ n ∧ n ≤ 4) (ihb : n < 4 → GbS S k hc mc hl (d + 3) n) : GrS S k hc mc hl (d + 4) n := by
  intro M Q x r v hb m b g hr hR hM hx hrow hv hpb hbt h
  have hw := hW.nd
  have hc24 := hR.1.1
  have hri : ∀ i, r i = hl (x i) := fun i => by rw [hr]
  have hx0 := hx 0 (by omega)
  have hrk : S 11 (r 0) 0 = k := by rw [hri]; exact (hR.1.2.1 (x 0) hx0.2).2.1
  have hmc := hR.2.2.2.2.1
  have hmid : ∀ M1 m1 b1 g1, EqO [35, 40] M M1 → (∀ j, j ≠ 8 → j ≠ 9 → M1 35 j = M 35 j) → BM S M1 (fun s q => bef S k n r s q ∨ sameR n r s q) m1 b1 g1 → Go mG_grow (d + 4) Q 22 [some (.ref 35), some (.int (nI n)), some (.int v), some (.int hb), none] [] M1 := by
    intro M1 m1 b1 g1 hE1 h351 hM1
    have h7 : M1 35 7 = nI mc := by rw [h351 7 (by omega) (by omega)]; exact hR.2.2.2.1
    have h9 : M1 35 9 = nI g1 := hM1.2.1
    have hg1 := hM1.2.2.2.1
    have hE1' : EqO [35, 39, 40] M M1 := hE1.sub (by decide)
    have h39 : M1 39 = M 39 := hE1 39 (by decide)
    have h36 : (4 - n) * mc ≤ 4 * 9 := Nat.mul_le_mul (by omega) hmc
    have htw : (v + nI ((4 - n) * mc)).toInt = pgR S r n + (((4 - n) * mc : Nat) : Int) := t_add hv (nI_toInt (by omega)) (by omega)
    have hprune : ∀ s q, ringOK S q s → pfx S k n r s q → gnR S q s ≤ pgR S r n + (((4 - n) * mc : Nat) : Int) := fun s q h1 h2 => prune hR.1 hR.2.2.2.2.2 h1 h2
    have hKb : (v + nI ((4 - n) * mc)).toInt = pgR S r n + (((4 - n) * mc : Nat) : Int) := htw
    refine g_iload_n dX5_grow_22 rfl ?_
    refine g_iconst (nI 4) dX5_grow_23 ki_4 ?_
    refine g_iload_n dX5_grow_24 rfl ?_
    first | refine g_isub_n dX5_grow_25 (by omega) ?_ | refine g_isub dX5_grow_25 ?_
    refine g_aload_n dX5_grow_26 rfl ?_
    refine g_geti (j := 7) dX5_grow_27 gc5 rfl (by decide) rfl (by decide) fl_G_35 ?_
    try simp (disch := omega) only [h7]
    first | refine g_imul_n dX5_grow_30 ?_ | refine g_imul dX5_grow_30 ?_
    refine g_iadd dX5_grow_31 ?_
    refine g_ist5_4 dX5_grow_32 (by decide) rfl ?_
    generalize v + nI ((4 - n) * mc) = w0 at htw hKb ⊢
    generalize ((4 - n) * mc : Nat) = KK at htw hprune hKb
    refine g_iload_n dX5_grow_34 rfl ?_
    refine g_iconst (nI 4) dX5_grow_35 ki_4 ?_
    refine g_icmp_ge_n 60 dX5_grow_36 (by decide) (by omega) (by omega) (fun c36 => ?_) (fun c36 => ?_)
    · refine g_return dX5_grow_60 rfl ?_
      refine h M1 m1 b1 g1 hE1' h351 (fun i _ => by rw [h39]) (BM_keep hM1 (fun s q hs hq => ?_) (fun h1 h2 => ?_))
      · rcases hs with hs | ⟨hs1, hs2, hs3⟩
        · exact Or.inl (Or.inl hs)
        · have := hq.2.1
          exact Or.inl (Or.inr ⟨by omega, fun i hi => (hs3 i hi).symm⟩)
      · rcases h2 with h2 | ⟨h2, h3⟩
        · exact Or.inl h2
        · exact Or.inr ⟨by rw [← h3 0 (by omega)]; exact hrk, by omega, fun i hi => (h3 i hi).symm⟩
    · have hkeep : (∀ s q, ringOK S q s → pfx S k n r s q → gnR S q s ≤ 0 ∨ (m1 ≠ 0 ∧ btR S m1 b1 s q)) → BM S M1 (fun s q => bef S k n r s q ∨ pfx S k n r s q) m1 b1 g1 := by
        intro hy
        refine BM_keep hM1 (fun s q hs hq => ?_) (fun h1 h2 => ?_)
        · rcases hs with hs | hs
          · exact Or.inl (Or.inl hs)
          · rcases hy s q hq hs with z | z
            · exact Or.inr (Or.inl z)
            · exact Or.inr (Or.inr ⟨z.1, Or.inr z.2⟩)
        · rcases h2 with h2 | ⟨h2, h3⟩
          · exact Or.inl h2
          · exact Or.inr ⟨by rw [← h3 0 (by omega)]; exact hrk, by omega, fun i hi => (h3 i hi).symm⟩
      refine g_iload dX5_grow_39 rfl ?_
      refine g_if_le 60 dX5_grow_41 (by decide) (fun c41 => ?_) (fun c41 => ?_)
      · refine g_return dX5_grow_60 rfl ?_
        refine h M1 m1 b1 g1 hE1' h351 (fun i _ => by rw [h39]) (hkeep (fun s q hq hs => Or.inl ?_))
        have := hprune s q hq hs
        rw [Int32.le_iff_toInt_le, htw] at c41
        have c41 : pgR S r n + (KK : Int) ≤ 0 := c41
        omega
      · have hpos : 0 < pgR S r n + (KK : Int) := by
          rw [← htw]
          exact Int32.lt_iff_toInt_lt.mp (Int32.not_le.mp (by simpa using c41))
        refine g_iload dX5_grow_44 rfl ?_
        refine g_aload_n dX5_grow_46 rfl ?_
        refine g_geti (j := 9) dX5_grow_47 gc5 rfl (by decide) rfl (by decide) fl_G_41 ?_
        try simp (disch := omega) only [h9]
        refine g_icmp_lt 60 dX5_grow_50 (by decide) (fun c50 => ?_) (fun c50 => ?_)
        · refine g_return dX5_grow_60 rfl ?_
          refine h M1 m1 b1 g1 hE1' h351 (fun i _ => by rw [h39]) (hkeep (fun s q hq hs => Or.inr ?_))
          have h1 := hprune s q hq hs
          have c50 : pgR S r n + (KK : Int) < (g1 : Int) := by
            have := Int32.lt_iff_toInt_lt.mp c50
            rw [htw, nI_toInt (by omega)] at this
            exact this
          have hm0 : m1 ≠ 0 := fun z => by have := hM1.2.2.2.2.1 z; omega
          have hgn := hM1.2.2.2.2.2.1 (by omega)
          exact ⟨hm0, Or.inl (by omega)⟩
        · refine g_aload_n dX5_grow_53 rfl ?_
          refine g_iload_n dX5_grow_54 rfl ?_
          refine g_iload_n dX5_grow_55 rfl ?_
          refine g_iload_n dX5_grow_56 rfl ?_
          refine g_call3 dX5_grow_57 clG_growByEach ml_G_87 gc5 rfl rfl (by decide) (Nat.le_of_ble_eq_true rfl) ?_
          have hR1 : RG S M1 k hc hl mc := hR.off (fun j hj => h351 j (by omega) (by omega)) (fun i hi => hE1' i (by simp; omega))
          refine ihb (by omega) M1 _ x r v hb m1 b1 g1 hr hR1 hM1 (fun i hi => by rw [h39]; exact hx i hi) hrow hv hpb hbt (fun M' m' b' g' hE' h35' h39' hBM' => ?_)
          refine g_return dX5_grow_60 rfl ?_
          exact h M' m' b' g' (hE1'.tr hE') (fun j j8 j9 => (h35' j j8 j9).trans (h351 j j8 j9)) (fun i hi => by rw [h39' i hi, h39]) hBM'
  refine Call_of (m := mG_grow) [some (.ref 35), some (.int (nI n)), some (.int v), some (.int hb), none] rfl (fun G => Nat.le_of_ble_eq_true rfl) (fun G => rfl) ?_
  refine g_iload_n dX5_grow_0 rfl ?_
  refine g_iconst (nI 1) dX5_grow_1 ki_1 ?_
  refine g_icmp_lt_n 10 dX5_grow_2 (by decide) (by omega) (by omega) (fun c2 => ?_) (fun c2 => ?_)
  · exact absurd hn.1 (by omega)
  · refine g_iload_n dX5_grow_5 rfl ?_
    refine g_iconst (nI 4) dX5_grow_6 ki_4 ?_
    refine g_icmp_le_n 11 dX5_grow_7 (by decide) (by omega) (by omega) (fun c7 => ?_) (fun c7 => ?_)
    · refine g_iload_n dX5_grow_11 rfl ?_
      refine g_iconst (nI 1) dX5_grow_12 ki_1 ?_
      refine g_icmp_le_n 22 dX5_grow_13 (by decide) (by omega) (by omega) (fun c13 => ?_) (fun c13 => ?_)
      · refine hmid M m b g EqO.rf (fun j _ _ => rfl) (BM_keep hM (fun s q hs hq => ?_) (fun _ h => Or.inl h))
        rcases hs with hs | hs
        · exact Or.inl hs
        · have := hq.1
          have := hs.1
          omega
      · refine g_aload_n dX5_grow_16 rfl ?_
        refine g_iload_n dX5_grow_17 rfl ?_
        refine g_iload_n dX5_grow_18 rfl ?_
        refine g_call2 dX5_grow_19 clG_tryRing ml_G_83 gc5 rfl rfl (by decide) (Nat.le_of_ble_eq_true rfl) ?_
        refine SG_tryRing (P := bef S k n r) (m := m) (b := b) (g := g) hR hW hM (by omega) hx (by rw [← hr]; exact hrow) (by rw [← hr]; exact hv) (by rw [← hr]; omega) (fun s q h1 h2 h3 h4 => by rw [← hr]; exact bef_same h1 h3 hrk (h4.trans (hri 0).symm)) (fun M1 m1 b1 g1 hE1 h351 hM1 => ?_)
        rw [← hr] at hM1
        exact hmid M1 m1 b1 g1 hE1 h351 hM1
    · exact absurd hn.2 (by omega)
theorem SG_grow {S : BS} {k hc mc : Nat} {hl : Nat → Nat} (hW : WF S) (hH : HM S) : ∀ t n, n + t = 4 → 1 ≤ n → ∀ d, GrS S k hc mc hl (d + 2 * t + 4) n := by
  intro t
  induction t with
  | zero => exact fun n hn h1 d => SG_growS hW (by omega) (fun z => absurd z (by omega))
  | succ t ih =>
    intro n hn h1 d
    have hg := ih (n + 1) (by omega) (by omega) d
    rw [show d + 2 * t + 4 = d + 2 * t + 2 + 2 by omega] at hg
    have hb := SG_growByEachS hW hH (d := d + 2 * t + 2) ⟨h1, by omega⟩ hg
    have z := SG_growS hW (d := d + 2 * t + 2) ⟨h1, by omega⟩ (fun _ => hb)
    rw [show d + 2 * t + 2 + 4 = d + 2 * (t + 1) + 4 by omega] at z
    exact z
/-! RINGS in the class: findBest -/
theorem SG_findBest {d : Nat} {M : Mm} {S : BS} {Q : Po} (hB : BK M S) (hH : HM S) (h : ∀ M' m b g, EqO [35, 36, 37, 38, 39, 40] M M' → BM S M' (fun _ _ => True) m b g → Q M' (some (.int (bI (decide (0 < m)))))) : Call (d + 11) mG_findBest [.ref 35] M Q := by
  have hW := hB.wf
  have hw := hW.nd
  refine Call_of (m := mG_findBest) [some (.ref 35), none, none] rfl (fun G => Nat.le_of_ble_eq_true rfl) (fun G => rfl) ?_
  refine g_aload_n dX5_findBest_0 rfl ?_
  refine g_iconst (nI 0) dX5_findBest_1 ki_0 ?_
  refine g_puti (j := 8) dX5_findBest_2 gc5 rfl (by decide) rfl (by decide) fl_G_38 rfl (tyX5_ok 8 (by decide)) (by first | rfl | exact nar_bI _) rfl ?_
  refine g_aload_n dX5_findBest_5 rfl ?_
  refine g_iconst (nI 0) dX5_findBest_6 ki_0 ?_
  refine g_puti (j := 9) dX5_findBest_7 gc5 rfl (by decide) rfl (by decide) fl_G_41 rfl (tyX5_ok 9 (by decide)) (by first | rfl | exact nar_bI _) rfl ?_
  refine g_iconst (nI 0) dX5_findBest_10 ki_0 ?_
  refine g_ist3_1 dX5_findBest_11 (by decide) rfl ?_
  refine loop_up (P := fun k => ∀ M' m b g, EqO [35, 36, 37, 38, 39, 40] M M' → BM S M' (fun _ q => S 11 (q 0) 0 < k) m b g → Go mG_findBest (d + 11) Q 12 [some (.ref 35), some (.int (nI k)), none] [] M') 4 ?_ 0 (by omega) _ 0 (fun _ => 0) 0 ((EqO.set (by decide)).tr (EqO.set (by decide))) ⟨by rw [mset_off (by omega), mset_at], mset_at _ _ _ _, by omega, by omega, fun _ => rfl, fun z => absurd z (by omega), fun i hi => absurd hi (by omega), Or.inl ⟨rfl, fun s q z => absurd z (by omega)⟩⟩
  intro k hk ihk M' m b g hE hM
  have hB' : BK M' S := hB.eqO hE (by decide)
  refine g_iload_n dX5_findBest_12 rfl ?_
  refine g_iconst (nI 4) dX5_findBest_13 ki_4 ?_
  refine g_icmp_ge_n 78 dX5_findBest_14 (by decide) (by omega) (by omega) (fun c14 => ?_) (fun c14 => ?_)
  · have h8 := hM.1
    have hm4 := hM.2.2.1
    have hfin := h M' m b g hE (BM_keep hM (fun s q _ hq => Or.inl (by
      have h1 := hq.2.2.1 0 (by have := hq.1; omega)
      have := (hW.dk (d := q 0) (by omega)).2.1
      omega)) (fun _ _ => trivial))
    refine g_aload_n dX5_findBest_78 rfl ?_
    refine g_geti (j := 8) dX5_findBest_79 gc5 rfl (by decide) rfl (by decide) fl_G_38 ?_
    try simp (disch := omega) only [h8]
    refine g_if_le_n 89 dX5_findBest_82 (by decide) (by omega) (fun c82 => ?_) (fun c82 => ?_)
    · refine g_iconst (nI 0) dX5_findBest_89 ki_0 ?_
      refine g_ireturn dX5_findBest_90 rfl (by first | rfl | exact nar_bI _) ?_
      exact qb_f hfin (decide_eq_false (by omega))
    · refine g_iconst (nI 1) dX5_findBest_85 ki_1 ?_
      refine g_goto 90 dX5_findBest_86 (by decide) ?_
      refine g_ireturn dX5_findBest_90 rfl (by first | rfl | exact nar_bI _) ?_
      exact qb_t hfin (decide_eq_true (by omega))
  · refine g_aload_n dX5_findBest_17 rfl ?_
    refine g_iload_n dX5_findBest_18 rfl ?_
    refine g_call1 dX5_findBest_19 clG_noteHeld ml_G_44 gc5 rfl rfl (by decide) (Nat.le_of_ble_eq_true rfl) ?_
    refine SG_noteHeld hB' (by omega) (fun M1 hc hl hE1 h351 hp1 hm1 => ?_)
    have hB1 : BK M1 S := hB'.eqO hE1 (by decide)
    refine g_aload_n dX5_findBest_22 rfl ?_
    refine g_call0 dX5_findBest_23 clG_noteCosts ml_G_48 gc5 rfl rfl (by decide) (Nat.le_of_ble_eq_true rfl) ?_
    refine SG_noteCosts hB1 hH hp1 hm1 (fun M2 mc hE2 h352 hcs hmc h7 hown => ?_)
    have hR2 : RG S M2 k hc hl mc := ⟨hp1, ⟨by rw [h352 6 (by omega)]; exact hm1.1, fun i hi => by rw [hE2 36 (by decide), hE2 37 (by decide)]; exact hm1.2 i hi⟩, hcs, h7, hmc, hown⟩
    have hM2 : BM S M2 (fun _ q => S 11 (q 0) 0 < k) m b g := hM.off (fun j hj => by rw [h352 j (by omega), h351 j (by omega)]) (by rw [hE2 40 (by decide), hE1 40 (by decide)])
    have hc24 := hp1.1
    refine g_iconst (nI 0) dX5_findBest_26 ki_0 ?_
    refine g_ist3_2 dX5_findBest_27 (by decide) rfl ?_
    refine loop_up (P := fun y => ∀ M3 m3 b3 g3, EqO [35, 36, 37, 38, 39, 40] M M3 → RG S M3 k hc hl mc → BM S M3 (fun s q => S 11 (q 0) 0 < k ∨ (S 11 (q 0) 0 = k ∧ ∃ z, z < y ∧ q 0 = hl z)) m3 b3 g3 → Go mG_findBest (d + 11) Q 28 [some (.ref 35), some (.int (nI k)), some (.int (nI y))] [] M3) hc ?_ 0 (Nat.zero_le _) M2 m b g (hE.tr ((hE1.sub (by decide)).tr (hE2.sub (by decide)))) hR2 (BM_keep hM2 (fun s q hs _ => Or.inl (by
      rcases hs with hs | ⟨_, z, hz, _⟩
      · exact hs
      · omega)) (fun _ h2 => Or.inl h2))
    intro y hy ihy M3 m3 b3 g3 hE3 hR3 hM3
    have h6 := hR3.2.1.1
    refine g_iload_n dX5_findBest_28 rfl ?_
    refine g_aload_n dX5_findBest_29 rfl ?_
    refine g_geti (j := 6) dX5_findBest_30 gc5 rfl (by decide) rfl (by decide) fl_G_31 ?_
    try simp (disch := omega) only [h6]
    refine g_icmp_ge_n 72 dX5_findBest_33 (by decide) (by omega) (by omega) (fun c33 => ?_) (fun c33 => ?_)
    · skip
      first | refine g_incn3_1 dX5_findBest_72 ki_1 (by decide) rfl ?_ | refine g_incg3_1 (nI 1) dX5_findBest_72 ki_1 (by decide) rfl ?_
      refine g_goto 12 dX5_findBest_75 (by decide) ?_
      refine Go_sub [some (.ref 35), some (.int (nI (k + 1))), none] (by simp [subL]) (ihk (by omega) M3 m3 b3 g3 hE3 (BM_keep hM3 (fun s q hs hq => Or.inl ?_) (fun _ h2 => ?_)))
      · by_cases e : S 11 (q 0) 0 < k
        · exact Or.inl e
        · have ek : S 11 (q 0) 0 = k := by omega
          obtain ⟨z, hz, e1⟩ := hp1.find hq.2.2.1 (i := 0) (by have := hq.1; omega) ek
          exact Or.inr ⟨ek, z, by omega, e1⟩
      · rcases h2 with h2 | ⟨h2, _⟩ <;> omega
    · have hyc : y < hc := by omega
      have hly := hp1.2.1 y hyc
      have h37 : M3 37 y = bitR S (hl y) := (hR3.2.1.2 y hyc).2
      have hmyy := hH (hl y) (by omega) hly.2.2
      have hOb := dlv_le hW (q := S 12 (hl y) 0) (d := hl y) (by omega)
      have hR4 : RG S (mset M3 39 0 (nI y)) k hc hl mc := hR3.off (fun j _ => mset_off (by omega)) (fun i hi => mset_ne (by omega))
      have h374 : mset M3 39 0 (nI y) 37 y = bitR S (hl y) := by rw [mset_ne (by decide)]; exact h37
      refine g_iload_n dX5_findBest_36 rfl ?_
      refine g_bipush (nI 24) dX5_findBest_37 kb_24 ?_
      refine g_icmp_ge_n 72 dX5_findBest_39 (by decide) (by omega) (by omega) (fun c39 => ?_) (fun c39 => ?_)
      · exact absurd hw (by omega)
      · refine g_aload_n dX5_findBest_42 rfl ?_
        refine g_getr (j := 4) dX5_findBest_43 gc5 rfl (by decide) rfl (by decide) fl_G_21 ?_
        refine g_iconst (nI 0) dX5_findBest_46 ki_0 ?_
        refine g_iload_n dX5_findBest_47 rfl ?_
        refine g_iast_n dX5_findBest_48 (by first | rfl | assumption) (by first | decide | assumption) (by omega) (by omega) ?_
        refine g_aload_n dX5_findBest_49 rfl ?_
        refine g_iconst (nI 1) dX5_findBest_50 ki_1 ?_
        refine g_aload_n dX5_findBest_51 rfl ?_
        refine g_iload_n dX5_findBest_52 rfl ?_
        refine g_iload_n dX5_findBest_53 rfl ?_
        refine g_call2 dX5_findBest_54 clG_costOf ml_G_51 gc5 rfl rfl (by decide) (Nat.le_of_ble_eq_true rfl) ?_
        refine SG_costOf hR4 hw hyc hyc ?_
        rw [show cstR S (hl y) (hl y) = nI (dlv S (S 12 (hl y) 0) (hl y)) from if_pos hmyy]
        refine g_aload_n dX5_findBest_57 rfl ?_
        refine g_getr (j := 2) dX5_findBest_58 gc5 rfl (by decide) rfl (by decide) fl_G_15 ?_
        refine g_iload_n dX5_findBest_61 rfl ?_
        refine g_iald_n dX5_findBest_62 (by first | rfl | assumption) (by first | decide | assumption) (by omega) (by omega) ?_
        try simp (disch := omega) only [h374]
        refine g_call3 dX5_findBest_63 clG_grow ml_G_55 gc5 rfl rfl (by decide) (Nat.le_of_ble_eq_true rfl) ?_
        have hgr : GrS S k hc mc hl (d + 10) 1 := SG_grow (S := S) (k := k) (hc := hc) (mc := mc) (hl := hl) hW hH 3 1 rfl (Nat.le_refl 1) d
        have hpg : pgR S (fun _ => hl y) 1 = ((dlv S (S 12 (hl y) 0) (hl y) : Nat) : Int) := by
          simp [pgR, ownR, nxtR]
        have hv1 : (nI (dlv S (S 12 (hl y) 0) (hl y))).toInt = pgR S (fun _ => hl y) 1 := by
          rw [hpg]
          exact nI_toInt (n := dlv S (S 12 (hl y) 0) (hl y)) (by omega)
        have hb1 : -(10 * ((1 : Nat) : Int)) ≤ pgR S (fun _ => hl y) 1 ∧ pgR S (fun _ => hl y) 1 ≤ 10 * ((1 : Nat) : Int) := by
          rw [hpg]
          omega
        have hbt1 : BTr S (bitR S (hl y)) (fun _ => hl y) 1 := BTr.one (r := fun _ => hl y) hly.2.2
        refine hgr (mset M3 39 0 (nI y)) _ (fun _ => y) (fun _ => hl y) _ _ m3 b3 g3 rfl hR4 (BM_keep (hM3.off (fun j _ => mset_off (by omega)) (mset_ne (by decide))) (fun s q hs hq => Or.inl ?_) (fun h1 h2 => ?_)) (fun i hi => ?_) (fun i hi => ?_) hv1 hb1 hbt1 (fun M5 m5 b5 g5 hE5 h355 h395 hM5 => ?_)
        · rcases hs with hs | ⟨hs, ⟨j, h1, h2, h3, h4⟩ | ⟨h1, _⟩⟩
          · exact Or.inl hs
          · obtain rfl : j = 0 := by omega
            obtain ⟨z, hz, e1⟩ := hp1.find hq.2.2.1 (i := 0) h1 hs
            rw [e1, hp1.mono hz hyc] at h4
            exact Or.inr ⟨hs, z, h4, e1⟩
          · have := hq.1; omega
        · rcases h2 with h2 | ⟨h2, z, hz, e1⟩
          · exact Or.inl h2
          · refine Or.inr ⟨h2, Or.inl ⟨0, by have := h1.1; omega, by omega, fun i hi => absurd hi (by omega), ?_⟩⟩
            rw [e1]
            exact (hp1.mono (by omega) hyc).mpr hz
        · obtain rfl : i = 0 := by omega
          rw [mset_at]
          exact ⟨rfl, hyc⟩
        · obtain rfl : i = 0 := by omega
          exact ⟨hly.1, hly.2.2, rfl, fun z => absurd z (by omega), fun j hj => absurd hj (by omega)⟩
        · skip
          first | refine g_incn3_2 dX5_findBest_66 ki_1 (by decide) rfl ?_ | refine g_incg3_2 (nI 1) dX5_findBest_66 ki_1 (by decide) rfl ?_
          refine g_goto 28 dX5_findBest_69 (by decide) ?_
          refine ihy (by omega) M5 m5 b5 g5 (hE3.tr ((EqO.set (by decide)).tr (hE5.sub (by decide)))) (hR4.off (fun j hj => h355 j (by omega) (by omega)) (fun i hi => hE5 i (by simp; omega))) (BM_keep hM5 (fun s q hs hq => Or.inl ?_) (fun h1 h2 => ?_))
          · rcases hs with hs | ⟨hs, z, hz, e1⟩
            · exact Or.inl (Or.inl hs)
            · by_cases e : z = y
              · refine Or.inr ⟨hs, by have := hq.1; omega, fun i hi => ?_⟩
                obtain rfl : i = 0 := by omega
                rw [e1, e]
              · refine Or.inl (Or.inr ⟨hs, Or.inl ⟨0, by have := hq.1; omega, by omega, fun i hi => absurd hi (by omega), ?_⟩⟩)
                rw [e1]
                exact (hp1.mono (by omega) hyc).mpr (by omega)
          · rcases h2 with (h2 | ⟨h2, ⟨j, g1, g2, g3, g4⟩ | ⟨g1, _⟩⟩) | ⟨h2, _, h3⟩
            · exact Or.inl h2
            · obtain rfl : j = 0 := by omega
              obtain ⟨z, hz, e1⟩ := hp1.find h1.2.2.1 (i := 0) g1 h2
              rw [e1, hp1.mono hz hyc] at g4
              exact Or.inr ⟨h2, z, by omega, e1⟩
            · have := h1.1; omega
            · exact Or.inr ⟨h2, y, by omega, h3 0 (by omega)⟩
/-! RINGS in the reference: follows, gainOf -/
def folB (S : BS) (r : RW) (n e : Nat) : Bool := decide (S 12 e 0 < 8 ∧ S 11 e 0 = S 11 (r 0) 0 ∧ r 0 < e ∧ (∀ j, j < n → S 12 (r j) 0 ≠ S 12 e 0) ∧ mayB S (S 12 e 0) (r (n - 1)) = true)
theorem SM_follows {d : Nat} {M : Mm} {S : BS} {Q : Po} {r : RW} {n e : Nat} (hM : MK (M 58) S) (hn : 1 ≤ n ∧ n ≤ 3) (he : e < S 1 0 0) (h67 : ∀ i, i < n → M 67 i = nI (r i)) (hrow : rowOK S r n) (h : Q M (some (.int (bI (folB S r n e))))) : Call (d + 5) mM_follows [.ref 57, .int (nI e), .int (nI n)] M Q := by
  have hw := hM.wf.nd
  have hde := hM.wf.dk (d := e) (by omega)
  have hr0 := hrow 0 (by omega)
  have hd0 := hM.wf.dk (d := r 0) (by omega)
  have hke := hM.kd he
  have hk0 := hM.kd hr0.1
  have hr67 := h67 0 (by omega)
  have hbad : folB S r n e = false → Go mM_follows (d + 5) Q 46 [some (.ref 57), some (.int (nI e)), some (.int (nI n)), none] [] M := by
    intro hf
    refine g_iconst (nI 0) dX10_follows_46 ki_0 ?_
    refine g_ireturn dX10_follows_47 rfl (by first | rfl | exact nar_bI _) ?_
    exact qb_f h hf
  unfold folB at h hbad
  refine Call_of (m := mM_follows) [some (.ref 57), some (.int (nI e)), some (.int (nI n)), none] rfl (fun G => Nat.le_of_ble_eq_true rfl) (fun G => rfl) ?_
  refine g_aload_n dX10_follows_0 rfl ?_
  refine g_iload_n dX10_follows_1 rfl ?_
  refine g_call1 dX10_follows_2 clM_holder ml_M_78 gc10 rfl rfl (by decide) (Nat.le_of_ble_eq_true rfl) ?_
  refine SM_holder hM he ?_
  refine g_if_lt 46 dX10_follows_5 (by decide) (fun c5 => ?_) (fun c5 => ?_)
  · rw [hv_lt hde.2.2] at c5
    exact hbad (decide_eq_false (fun z => by omega))
  · rw [hv_lt hde.2.2] at c5
    have h8 : S 12 e 0 < 8 := by omega
    refine g_aload_n dX10_follows_8 rfl ?_
    refine g_getr (j := 0) dX10_follows_9 gc10 rfl (by decide) rfl (by decide) fl_M_9 ?_
    refine g_sipush (nI 275) dX10_follows_12 ks_275 ?_
    refine g_iload_n dX10_follows_15 rfl ?_
    first | refine g_iadd_n dX10_follows_16 ?_ | refine g_iadd dX10_follows_16 ?_
    refine g_iald_n dX10_follows_17 (by first | rfl | assumption) (by first | decide | assumption) (by omega) (by omega) ?_
    try simp (disch := omega) only [hr67, hke, hk0]
    refine g_aload_n dX10_follows_18 rfl ?_
    refine g_getr (j := 0) dX10_follows_19 gc10 rfl (by decide) rfl (by decide) fl_M_9 ?_
    refine g_sipush (nI 275) dX10_follows_22 ks_275 ?_
    refine g_aload_n dX10_follows_25 rfl ?_
    refine g_getr (j := 14) dX10_follows_26 gc10 rfl (by decide) rfl (by decide) fl_M_38 ?_
    refine g_iconst (nI 0) dX10_follows_29 ki_0 ?_
    refine g_iald_n dX10_follows_30 (by first | rfl | assumption) (by first | decide | assumption) (by omega) (by omega) ?_
    try simp (disch := omega) only [hr67, hke, hk0]
    first | refine g_iadd_n dX10_follows_31 ?_ | refine g_iadd dX10_follows_31 ?_
    refine g_iald_n dX10_follows_32 (by first | rfl | assumption) (by first | decide | assumption) (by omega) (by omega) ?_
    try simp (disch := omega) only [hr67, hke, hk0]
    refine g_icmp_ne_n 46 dX10_follows_33 (by decide) (by omega) (by omega) (fun c33 => ?_) (fun c33 => ?_)
    · exact hbad (decide_eq_false (fun z => c33 z.2.1))
    · refine g_iload_n dX10_follows_36 rfl ?_
      refine g_aload_n dX10_follows_37 rfl ?_
      refine g_getr (j := 14) dX10_follows_38 gc10 rfl (by decide) rfl (by decide) fl_M_38 ?_
      refine g_iconst (nI 0) dX10_follows_41 ki_0 ?_
      refine g_iald_n dX10_follows_42 (by first | rfl | assumption) (by first | decide | assumption) (by omega) (by omega) ?_
      try simp (disch := omega) only [hr67, hke, hk0]
      refine g_icmp_gt_n 48 dX10_follows_43 (by decide) (by omega) (by omega) (fun c43 => ?_) (fun c43 => ?_)
      · skip
        refine g_iconst (nI 0) dX10_follows_48 ki_0 ?_
        refine g_ist4_3 dX10_follows_49 (by decide) rfl ?_
        refine loop_up (P := fun i => (∀ j, j < i → S 12 (r j) 0 ≠ S 12 e 0) → Go mM_follows (d + 5) Q 50 [some (.ref 57), some (.int (nI e)), some (.int (nI n)), some (.int (nI i))] [] M) n ?_ 0 (Nat.zero_le _) (fun j hj => absurd hj (by omega))
        intro i hi ih hno
        refine g_iload_n dX10_follows_50 rfl ?_
        refine g_iload_n dX10_follows_51 rfl ?_
        refine g_icmp_ge_n 81 dX10_follows_52 (by decide) (by omega) (by omega) (fun c52 => ?_) (fun c52 => ?_)
        · have hl67 := h67 (n - 1) (by omega)
          have hln := hrow (n - 1) (by omega)
          refine g_aload_n dX10_follows_81 rfl ?_
          refine g_aload_n dX10_follows_82 rfl ?_
          refine g_iload_n dX10_follows_83 rfl ?_
          refine g_call1 dX10_follows_84 clM_holder ml_M_78 gc10 rfl rfl (by decide) (Nat.le_of_ble_eq_true rfl) ?_
          refine SM_holder hM he ?_
          rw [hv_p (p := S 12 e 0) h8]
          refine g_aload_n dX10_follows_87 rfl ?_
          refine g_getr (j := 14) dX10_follows_88 gc10 rfl (by decide) rfl (by decide) fl_M_38 ?_
          refine g_iload_n dX10_follows_91 rfl ?_
          refine g_iconst (nI 1) dX10_follows_92 ki_1 ?_
          first | refine g_isub_n dX10_follows_93 (by omega) ?_ | refine g_isub dX10_follows_93 ?_
          refine g_iald_n dX10_follows_94 (by first | rfl | assumption) (by first | decide | assumption) (by omega) (by omega) ?_
          try simp (disch := omega) only [hl67]
          refine g_call2 dX10_follows_95 clM_mayHold ml_M_113 gc10 rfl rfl (by decide) (Nat.le_of_ble_eq_true rfl) ?_
          refine SM_mayHold hM (by omega) hln.1 ?_
          obtain rfl : i = n := by omega
          by_cases hmy : mayB S (S 12 e 0) (r (i - 1)) = true
          · rw [hmy]
            refine g_ireturn dX10_follows_98 rfl (by first | rfl | exact nar_bI _) ?_
            exact qb_t h (decide_eq_true ⟨h8, c33, c43, hno, hmy⟩)
          · rw [Bool.eq_false_iff.mpr hmy]
            refine g_ireturn dX10_follows_98 rfl (by first | rfl | exact nar_bI _) ?_
            exact qb_f h (decide_eq_false (fun z => hmy z.2.2.2.2))
        · have hi67 := h67 i (by omega)
          have hri := hrow i (by omega)
          refine g_aload_n dX10_follows_55 rfl ?_
          refine g_aload_n dX10_follows_56 rfl ?_
          refine g_getr (j := 14) dX10_follows_57 gc10 rfl (by decide) rfl (by decide) fl_M_38 ?_
          refine g_iload_n dX10_follows_60 rfl ?_
          refine g_iald_n dX10_follows_61 (by first | rfl | assumption) (by first | decide | assumption) (by omega) (by omega) ?_
          try simp (disch := omega) only [hi67]
          refine g_call1 dX10_follows_62 clM_holder ml_M_78 gc10 rfl rfl (by decide) (Nat.le_of_ble_eq_true rfl) ?_
          refine SM_holder hM hri.1 ?_
          rw [hv_p (p := S 12 (r i) 0) hri.2.1]
          refine g_aload_n dX10_follows_65 rfl ?_
          refine g_iload_n dX10_follows_66 rfl ?_
          refine g_call1 dX10_follows_67 clM_holder ml_M_78 gc10 rfl rfl (by decide) (Nat.le_of_ble_eq_true rfl) ?_
          refine SM_holder hM he ?_
          rw [hv_p (p := S 12 e 0) h8]
          refine g_icmp_ne_n 75 dX10_follows_70 (by decide) (by omega) (by omega) (fun c70 => ?_) (fun c70 => ?_)
          · first | refine g_incn4_3 dX10_follows_75 ki_1 (by decide) rfl ?_ | refine g_incg4_3 (nI 1) dX10_follows_75 ki_1 (by decide) rfl ?_
            refine g_goto 50 dX10_follows_78 (by decide) ?_
            refine ih (by omega) (fun j hj => ?_)
            by_cases e1 : j = i
            · rw [e1]; exact c70
            · exact hno j (by omega)
          · refine g_iconst (nI 0) dX10_follows_73 ki_0 ?_
            refine g_ireturn dX10_follows_74 rfl (by first | rfl | exact nar_bI _) ?_
            exact qb_f h (decide_eq_false (fun z => z.2.2.2.1 i (by omega) c70))
      · exact hbad (decide_eq_false (fun z => c43 z.2.2.1))
theorem SM_gainOf {d : Nat} {M : Mm} {S : BS} {Q : Po} {r : RW} {n : Nat} (hM : MK (M 58) S) (hH : HM S) (hn : 2 ≤ n ∧ n ≤ 4) (h67 : ∀ i, i < n → M 67 i = nI (r i)) (hrow : rowOK S r n) (h : ∀ w : Int32, w.toInt = gnR S r n → -100 ≤ gnR S r n → gnR S r n ≤ 100 → Q M (some (.int w))) : Call (d + 2) mM_gainOf [.ref 57, .int (nI n)] M Q := by
  have hw := hM.wf.nd
  have hrn := hrow (n - 1) (by omega)
  have hr0 := hrow 0 (by omega)
  have hlb := dlv_le hM.wf (q := S 12 (r 0) 0) (d := r (n - 1)) (by omega)
  refine Call_of (m := mM_gainOf) [some (.ref 57), some (.int (nI n)), none, none, none] rfl (fun G => Nat.le_of_ble_eq_true rfl) (fun G => rfl) ?_
  refine g_iconst (nI 0) dX10_gainOf_0 ki_0 ?_
  refine g_ist5_2 dX10_gainOf_1 (by decide) rfl ?_
  refine g_iconst (nI 0) dX10_gainOf_2 ki_0 ?_
  refine g_ist5_3 dX10_gainOf_3 (by decide) rfl ?_
  refine loop_up (P := fun i => ∀ u : Int32, u.toInt = (if i = 0 then 0 else pgR S r i - lstR S r n) → -(20 * (i : Int)) ≤ (if i = 0 then 0 else pgR S r i - lstR S r n) → (if i = 0 then 0 else pgR S r i - lstR S r n) ≤ 20 * (i : Int) → Go mM_gainOf (d + 2) Q 4 [some (.ref 57), some (.int (nI n)), some (.int u), some (.int (nI i)), none] [] M) n ?_ 0 (Nat.zero_le _) (nI 0) (by rw [if_pos rfl]; decide) (by simp) (by simp)
  intro i hi ih u hu hb1 hb2
  refine g_iload_n dX10_gainOf_4 rfl ?_
  refine g_iload_n dX10_gainOf_5 rfl ?_
  refine g_icmp_ge_n 67 dX10_gainOf_6 (by decide) (by omega) (by omega) (fun c6 => ?_) (fun c6 => ?_)
  · obtain rfl : i = n := by omega
    rw [if_neg (by omega)] at hu hb1 hb2
    refine g_iload_n dX10_gainOf_67 rfl ?_
    refine g_ireturn dX10_gainOf_68 rfl (by first | rfl | exact nar_bI _) ?_
    exact h u hu (by unfold gnR; omega) (by unfold gnR; omega)
  · have hi67 := h67 i (by omega)
    have hri := hrow i (by omega)
    have hnp := ho_np hM.wf hH hri.1 hri.2.1
    have hob := dlv_le hM.wf (q := S 12 (r i) 0) (d := r i) (by omega)
    have hdo : dlv S (S 12 (r i) 0) (r i) = S 13 ((S 12 (r i) 0)) ((r i)) := by unfold dlv; rw [if_pos hnp]
    refine g_aload_n dX10_gainOf_9 rfl ?_
    refine g_aload_n dX10_gainOf_10 rfl ?_
    refine g_getr (j := 14) dX10_gainOf_11 gc10 rfl (by decide) rfl (by decide) fl_M_38 ?_
    refine g_iload_n dX10_gainOf_14 rfl ?_
    refine g_iald_n dX10_gainOf_15 (by first | rfl | assumption) (by first | decide | assumption) (by omega) (by omega) ?_
    try simp (disch := omega) only [hi67]
    refine g_call1 dX10_gainOf_16 clM_holder ml_M_78 gc10 rfl rfl (by decide) (Nat.le_of_ble_eq_true rfl) ?_
    refine SM_holder hM hri.1 ?_
    rw [hv_p (p := S 12 (r i) 0) hri.2.1]
    refine g_ist5_4 dX10_gainOf_19 (by decide) rfl ?_
    refine g_iload_n dX10_gainOf_21 rfl ?_
    refine g_aload_n dX10_gainOf_22 rfl ?_
    refine g_iload dX10_gainOf_23 rfl ?_
    refine g_aload_n dX10_gainOf_25 rfl ?_
    refine g_getr (j := 14) dX10_gainOf_26 gc10 rfl (by decide) rfl (by decide) fl_M_38 ?_
    refine g_iload_n dX10_gainOf_29 rfl ?_
    refine g_iald_n dX10_gainOf_30 (by first | rfl | assumption) (by first | decide | assumption) (by omega) (by omega) ?_
    try simp (disch := omega) only [hi67]
    refine g_call2 dX10_gainOf_31 clM_dislikeOf ml_M_197 gc10 rfl rfl (by decide) (Nat.le_of_ble_eq_true rfl) ?_
    refine SM_dislikeOf hM hnp hri.1 ?_
    rw [← hdo]
    have hfin : ∀ c : Nat, c ≤ 9 → (if i + 1 = 0 then (0 : Int) else pgR S r (i + 1) - lstR S r n) = (if i = 0 then 0 else pgR S r i - lstR S r n) + ((dlv S (S 12 (r i) 0) (r i) : Nat) : Int) - (c : Int) → Go mM_gainOf (d + 2) Q 58 [some (.ref 57), some (.int (nI n)), some (.int u), some (.int (nI i)), some (.int (nI (S 12 (r i) 0)))] [.int (nI c), .int (nI (dlv S (S 12 (r i) 0) (r i))), .int u] M := by
      intro c hc hs
      have ht : (u + (nI (dlv S (S 12 (r i) 0) (r i)) - nI c)).toInt = (if i + 1 = 0 then (0 : Int) else pgR S r (i + 1) - lstR S r n) := by
        have z := t_add hu (t_sub (nI_toInt (n := dlv S (S 12 (r i) 0) (r i)) (by omega)) (nI_toInt (n := c) (by omega)) (by omega)) (by omega)
        rw [z, hs]
        omega
      refine g_isub dX10_gainOf_58 ?_
      refine g_iadd dX10_gainOf_59 ?_
      refine g_ist5_2 dX10_gainOf_60 (by decide) rfl ?_
      first | refine g_incn5_3 dX10_gainOf_61 ki_1 (by decide) rfl ?_ | refine g_incg5_3 (nI 1) dX10_gainOf_61 ki_1 (by decide) rfl ?_
      refine g_goto 4 dX10_gainOf_64 (by decide) ?_
      exact Go_sub [some (.ref 57), some (.int (nI n)), some (.int (u + (nI (dlv S (S 12 (r i) 0) (r i)) - nI c))), some (.int (nI (i + 1))), none] (by simp [subL]) (ih (by omega) _ ht (by rw [hs]; omega) (by rw [hs]; omega))
    refine g_aload_n dX10_gainOf_34 rfl ?_
    refine g_iload dX10_gainOf_35 rfl ?_
    refine g_aload_n dX10_gainOf_37 rfl ?_
    refine g_getr (j := 14) dX10_gainOf_38 gc10 rfl (by decide) rfl (by decide) fl_M_38 ?_
    refine g_iload_n dX10_gainOf_41 rfl ?_
    refine g_if_ne_n 51 dX10_gainOf_42 (by decide) (by omega) (fun c42 => ?_) (fun c42 => ?_)
    · have hj67 := h67 (i - 1) (by omega)
      have hrj := hrow (i - 1) (by omega)
      have hjb := dlv_le hM.wf (q := S 12 (r i) 0) (d := r (i - 1)) (by omega)
      have hdj : dlv S (S 12 (r i) 0) (r (i - 1)) = S 13 ((S 12 (r i) 0)) ((r (i - 1))) := by unfold dlv; rw [if_pos hnp]
      refine g_iload_n dX10_gainOf_51 rfl ?_
      refine g_iconst (nI 1) dX10_gainOf_52 ki_1 ?_
      first | refine g_isub_n dX10_gainOf_53 (by omega) ?_ | refine g_isub dX10_gainOf_53 ?_
      refine g_iald_n dX10_gainOf_54 (by first | rfl | assumption) (by first | decide | assumption) (by omega) (by omega) ?_
      try simp (disch := omega) only [hj67]
      refine g_call2 dX10_gainOf_55 clM_dislikeOf ml_M_197 gc10 rfl rfl (by decide) (Nat.le_of_ble_eq_true rfl) ?_
      refine SM_dislikeOf hM hnp hrj.1 ?_
      rw [← hdj]
      refine hfin _ hjb ?_
      rw [if_neg (by omega), if_neg c42, pgR]
      unfold ownR nxtR
      rw [if_neg c42]
      omega
    · have hdj : dlv S (S 12 (r i) 0) (r (n - 1)) = S 13 ((S 12 (r i) 0)) ((r (n - 1))) := by unfold dlv; rw [if_pos hnp]
      have hl67 := h67 (n - 1) (by omega)
      refine g_iload_n dX10_gainOf_45 rfl ?_
      refine g_iconst (nI 1) dX10_gainOf_46 ki_1 ?_
      first | refine g_isub_n dX10_gainOf_47 (by omega) ?_ | refine g_isub dX10_gainOf_47 ?_
      refine g_goto 54 dX10_gainOf_48 (by decide) ?_
      refine g_iald_n dX10_gainOf_54 (by first | rfl | assumption) (by first | decide | assumption) (by omega) (by omega) ?_
      try simp (disch := omega) only [hl67]
      refine g_call2 dX10_gainOf_55 clM_dislikeOf ml_M_197 gc10 rfl rfl (by decide) (Nat.le_of_ble_eq_true rfl) ?_
      refine SM_dislikeOf hM hnp hrn.1 ?_
      rw [← hdj]
      subst c42
      refine hfin _ hlb ?_
      rw [if_neg (by omega), if_pos rfl, pgR, pgR]
      unfold ownR nxtR lstR
      rw [if_pos rfl]
      omega
/-! RINGS in the reference: looksAt -/
def BR (S : BS) (M : Mm) (P : Nat → RW → Prop) (m : Nat) (b : RW) (g : Nat) : Prop := M 57 16 = nI m ∧ M 57 17 = nI g ∧ m ≤ 4 ∧ g ≤ 100 ∧ (m = 0 → g = 0) ∧ (0 < m → (g : Int) = gnR S b m) ∧ (∀ i, i < m → M 68 i = nI (b i) ∧ b i < 24) ∧ BstP S P m b
theorem BR_keep {S : BS} {M : Mm} {P P' : Nat → RW → Prop} {m g : Nat} {b : RW} (h : BR S M P m b g) (hp : ∀ s q, P' s q → ringOK S q s → P s q ∨ gnR S q s ≤ 0 ∨ (m ≠ 0 ∧ (sameR m b s q ∨ btR S m b s q))) (h2 : ringOK S b m → P m b → P' m b) : BR S M P' m b g := by
  obtain ⟨h8, h9, hm4, hg, h0, hgn, h40, hb⟩ := h
  exact ⟨h8, h9, hm4, hg, h0, hgn, h40, Bst_keep hb hp h2⟩
theorem BR.off {S : BS} {M M' : Mm} {P : Nat → RW → Prop} {m g : Nat} {b : RW} (h : BR S M P m b g) (h1 : ∀ j, j = 16 ∨ j = 17 → M' 57 j = M 57 j) (h2 : M' 68 = M 68) : BR S M' P m b g := by
  obtain ⟨h8, h9, hm4, hg, h0, hgn, h40, hb⟩ := h
  exact ⟨by rw [h1 16 (by omega)]; exact h8, by rw [h1 17 (by omega)]; exact h9, hm4, hg, h0, hgn, fun i hi => by rw [h2]; exact h40 i hi, hb⟩
theorem look_no {S : BS} {M : Mm} {P : Nat → RW → Prop} {m g n : Nat} {b r : RW} (h : BR S M P m b g) (hn : 0 < n) (hP : ∀ s q, P s q → ringOK S q s → s < n ∨ (s = n ∧ lexR n q r)) (hno : gnR S r n ≤ (g : Int)) : BR S M (fun s q => P s q ∨ sameR n r s q) m b g := by
  refine BR_keep h (fun s q hs hr => ?_) (fun _ h => Or.inl h)
  rcases hs with hs | hs
  · exact Or.inl hs
  · obtain ⟨h8, h9, hm4, hg, h0, hgn, h40, hb⟩ := h
    by_cases hm0 : m = 0
    · have := h0 hm0
      refine Or.inr (Or.inl ?_)
      obtain ⟨e, hs⟩ := hs
      subst e
      rw [← gn_cong hs hn]
      omega
    · have hgn := hgn (by omega)
      refine Or.inr (Or.inr ⟨hm0, Or.inr (bt_same (s := n) (q := r) ?_ hs hn)⟩)
      unfold btR
      by_cases z : gnR S r n = (g : Int)
      · refine Or.inr ⟨by omega, ?_⟩
        rcases hb with ⟨b1, _⟩ | ⟨b1, b2, b3, b4⟩
        · exact absurd b1 hm0
        · rcases hP m b b3 b1 with y | ⟨y1, y2⟩
          · exact Or.inl y
          · exact Or.inr ⟨y1, by rw [y1]; exact y2⟩
      · exact Or.inl (by omega)
theorem look_yes {S : BS} {M M' : Mm} {P : Nat → RW → Prop} {m g n G : Nat} {b r : RW} (h : BR S M P m b g) (hr : ringOK S r n) (hw : S 1 0 0 ≤ 24) (hG : (G : Int) = gnR S r n) (hG0 : g < G ∧ G ≤ 100) (m8 : M' 57 16 = nI n) (m9 : M' 57 17 = nI G) (m40 : ∀ i, i < n → M' 68 i = nI (r i)) : BR S M' (fun s q => P s q ∨ sameR n r s q) n r G := by
  obtain ⟨h8, h9, hm4, hg, h0, hgn, h40, hb⟩ := h
  have hn := hr.1
  refine ⟨m8, m9, hr.2.1, hG0.2, fun z => by omega, fun _ => hG, fun i hi => ⟨m40 i hi, by have := (hr.2.2.1 i hi).1; omega⟩, Bst_new hb hr (by omega) ?_ (fun u p hu _ => ?_) (Or.inr ⟨rfl, fun _ _ => rfl⟩)⟩
  · by_cases hm0 : m = 0
    · exact Or.inl hm0
    · have hgn := hgn (by omega)
      exact Or.inr (Or.inl (by omega))
  · rcases hu with hu | hu
    · exact Or.inl hu
    · exact Or.inr (Or.inr hu)
def EqG (M M' : Mm) : Prop := ∀ k j, ¬ (k = 57 ∧ (j = 16 ∨ j = 17)) → k ≠ 68 → M' k j = M k j
theorem EqG.rf {M : Mm} : EqG M M := fun _ _ _ _ => rfl
theorem EqG.tr {M M1 M2 : Mm} (h1 : EqG M M1) (h2 : EqG M1 M2) : EqG M M2 := fun k j h g => (h2 k j h g).trans (h1 k j h g)
theorem EqG.row {M M' : Mm} (h : EqG M M') {k : Nat} (h1 : k ≠ 57) (h2 : k ≠ 68) : M' k = M k := funext fun j => h k j (fun z => h1 z.1) h2
theorem SM_looksAt {d : Nat} {M : Mm} {S : BS} {Q : Po} {P : Nat → RW → Prop} {r b : RW} {n m g : Nat} (hM : MK (M 58) S) (hH : HM S) (hn : 2 ≤ n ∧ n ≤ 4) (h67 : ∀ i, i < n → M 67 i = nI (r i)) (hrow : rowOK S r n) (hB : BR S M P m b g) (hP : ∀ s q, P s q → ringOK S q s → s < n ∨ (s = n ∧ lexR n q r)) (h : ∀ M' m' b' g', EqG M M' → BR S M' (fun s q => P s q ∨ sameR n r s q) m' b' g' → Q M' none) : Call (d + 5) mM_looksAt [.ref 57, .int (nI n)] M Q := by
  have hw := hM.wf.nd
  have hrn := hrow (n - 1) (by omega)
  have hr0 := hrow 0 (by omega)
  have hr67 := h67 0 (by omega)
  have hl67 := h67 (n - 1) (by omega)
  have h17 := hB.2.1
  have hg100 := hB.2.2.2.1
  refine Call_of (m := mM_looksAt) [some (.ref 57), some (.int (nI n)), none] rfl (fun G => Nat.le_of_ble_eq_true rfl) (fun G => rfl) ?_
  refine g_aload_n dX10_looksAt_0 rfl ?_
  refine g_aload_n dX10_looksAt_1 rfl ?_
  refine g_aload_n dX10_looksAt_2 rfl ?_
  refine g_getr (j := 14) dX10_looksAt_3 gc10 rfl (by decide) rfl (by decide) fl_M_38 ?_
  refine g_iconst (nI 0) dX10_looksAt_6 ki_0 ?_
  refine g_iald_n dX10_looksAt_7 (by first | rfl | assumption) (by first | decide | assumption) (by omega) (by omega) ?_
  try simp (disch := omega) only [hr67, hl67]
  refine g_call1 dX10_looksAt_8 clM_holder ml_M_78 gc10 rfl rfl (by decide) (Nat.le_of_ble_eq_true rfl) ?_
  refine SM_holder hM hr0.1 ?_
  rw [hv_p (p := S 12 (r 0) 0) hr0.2.1]
  refine g_aload_n dX10_looksAt_11 rfl ?_
  refine g_getr (j := 14) dX10_looksAt_12 gc10 rfl (by decide) rfl (by decide) fl_M_38 ?_
  refine g_iload_n dX10_looksAt_15 rfl ?_
  refine g_iconst (nI 1) dX10_looksAt_16 ki_1 ?_
  first | refine g_isub_n dX10_looksAt_17 (by omega) ?_ | refine g_isub dX10_looksAt_17 ?_
  refine g_iald_n dX10_looksAt_18 (by first | rfl | assumption) (by first | decide | assumption) (by omega) (by omega) ?_
  try simp (disch := omega) only [hr67, hl67]
  refine g_call2 dX10_looksAt_19 clM_mayHold ml_M_113 gc10 rfl rfl (by decide) (Nat.le_of_ble_eq_true rfl) ?_
  refine SM_mayHold hM (by omega) hrn.1 ?_
  by_cases hmy : mayB S (S 12 (r 0) 0) (r (n - 1)) = true
  · rw [hmy]
    refine g_if_eq_tt 76 dX10_looksAt_22 (by decide) ?_
    refine g_aload_n dX10_looksAt_25 rfl ?_
    refine g_iload_n dX10_looksAt_26 rfl ?_
    refine g_call1 dX10_looksAt_27 clM_gainOf ml_M_200 gc10 rfl rfl (by decide) (Nat.le_of_ble_eq_true rfl) ?_
    refine SM_gainOf hM hH hn h67 hrow (fun w hwv hw1 hw2 => ?_)
    refine g_aload_n dX10_looksAt_30 rfl ?_
    refine g_geti (j := 17) dX10_looksAt_31 gc10 rfl (by decide) rfl (by decide) fl_M_203 ?_
    try simp (disch := omega) only [h17]
    refine g_icmp_le 76 dX10_looksAt_34 (by decide) (fun c34 => ?_) (fun c34 => ?_)
    · refine g_return dX10_looksAt_76 rfl ?_
      refine h M m b g EqG.rf (look_no hB (by omega) hP ?_)
      rw [Int32.le_iff_toInt_le, hwv, nI_toInt (by omega)] at c34
      exact c34
    · have hgt : (g : Int) < gnR S r n := by
        have := Int32.lt_iff_toInt_lt.mp (Int32.not_le.mp c34)
        rw [hwv, nI_toInt (by omega)] at this
        exact this
      refine g_aload_n dX10_looksAt_37 rfl ?_
      refine g_aload_n dX10_looksAt_38 rfl ?_
      refine g_iload_n dX10_looksAt_39 rfl ?_
      refine g_call1 dX10_looksAt_40 clM_gainOf ml_M_200 gc10 rfl rfl (by decide) (Nat.le_of_ble_eq_true rfl) ?_
      refine SM_gainOf hM hH hn h67 hrow (fun w2 hwv2 _ _ => ?_)
      obtain ⟨G, hG⟩ : ∃ G : Nat, (G : Int) = gnR S r n := ⟨(gnR S r n).toNat, by omega⟩
      obtain rfl : w2 = nI G := t_nI (by rw [hwv2, hG]) (by omega)
      refine g_puti (j := 17) dX10_looksAt_43 gc10 rfl (by decide) rfl (by decide) fl_M_203 rfl (tyX10_ok 17 (by decide)) (by first | rfl | exact nar_bI _) rfl ?_
      refine g_aload_n dX10_looksAt_46 rfl ?_
      refine g_iload_n dX10_looksAt_47 rfl ?_
      refine g_puti (j := 16) dX10_looksAt_48 gc10 rfl (by decide) rfl (by decide) fl_M_206 rfl (tyX10_ok 16 (by decide)) (by first | rfl | exact nar_bI _) rfl ?_
      refine g_iconst (nI 0) dX10_looksAt_51 ki_0 ?_
      refine g_ist3_2 dX10_looksAt_52 (by decide) rfl ?_
      refine loop_up (P := fun i => ∀ M', EqO [68] (mset (mset M 57 17 (nI G)) 57 16 (nI n)) M' → (∀ j, j < i → M' 68 j = nI (r j)) → Go mM_looksAt (d + 5) Q 53 [some (.ref 57), some (.int (nI n)), some (.int (nI i))] [] M') n ?_ 0 (Nat.zero_le _) _ EqO.rf (fun j hj => absurd hj (by omega))
      intro i hi ih M' hE hbs
      refine g_iload_n dX10_looksAt_53 rfl ?_
      refine g_iload_n dX10_looksAt_54 rfl ?_
      refine g_icmp_ge_n 76 dX10_looksAt_55 (by decide) (by omega) (by omega) (fun c55 => ?_) (fun c55 => ?_)
      · refine g_return dX10_looksAt_76 rfl ?_
        obtain rfl : i = n := by omega
        refine h M' i r G (fun k j h1 h2 => ?_) (look_yes hB ⟨hn.1, hn.2, hrow, hmy⟩ hw hG (by omega) (by rw [hE 57 (by decide), mset_at]) (by rw [hE 57 (by decide), mset_off (by omega), mset_at]) hbs)
        rw [hE k (by simp; exact h2), mset_off (by omega), mset_off (by omega)]
      · have hi67 : M' 67 i = nI (r i) := by rw [hE 67 (by decide), mset_ne (by decide), mset_ne (by decide)]; exact h67 i (by omega)
        refine g_aload_n dX10_looksAt_58 rfl ?_
        refine g_getr (j := 15) dX10_looksAt_59 gc10 rfl (by decide) rfl (by decide) fl_M_41 ?_
        refine g_iload_n dX10_looksAt_62 rfl ?_
        refine g_aload_n dX10_looksAt_63 rfl ?_
        refine g_getr (j := 14) dX10_looksAt_64 gc10 rfl (by decide) rfl (by decide) fl_M_38 ?_
        refine g_iload_n dX10_looksAt_67 rfl ?_
        refine g_iald_n dX10_looksAt_68 (by first | rfl | assumption) (by first | decide | assumption) (by omega) (by omega) ?_
        try simp (disch := omega) only [hi67]
        refine g_iast_n dX10_looksAt_69 (by first | rfl | assumption) (by first | decide | assumption) (by omega) (by omega) ?_
        first | refine g_incn3_2 dX10_looksAt_70 ki_1 (by decide) rfl ?_ | refine g_incg3_2 (nI 1) dX10_looksAt_70 ki_1 (by decide) rfl ?_
        refine g_goto 53 dX10_looksAt_73 (by decide) ?_
        refine ih (by omega) _ (hE.tr (EqO.set (by decide))) (fun j hj => ?_)
        by_cases e : j = i
        · rw [e, mset_at]
        · rw [mset_off (by omega)]; exact hbs j (by omega)
  · rw [Bool.eq_false_iff.mpr hmy]
    refine g_if_eq_ff 76 dX10_looksAt_22 (by decide) ?_
    refine g_return dX10_looksAt_76 rfl ?_
    refine h M m b g EqG.rf (BR_keep hB (fun s q hs hq => ?_) (fun _ h => Or.inl h))
    rcases hs with hs | ⟨e, hs⟩
    · exact Or.inl hs
    · exfalso
      subst e
      have h4 := hq.2.2.2
      rw [← hs 0 (by omega), ← hs (n - 1) (by omega)] at h4
      exact hmy h4
/-! RINGS in the reference: ringsOn -/
def befM (z n : Nat) (r : RW) (s : Nat) (q : RW) : Prop := s < z ∨ (s = z ∧ ∃ j, j < n ∧ (∀ i, i < j → q i = r i) ∧ q j < r j)
def pfxM (z n : Nat) (r : RW) (s : Nat) (q : RW) : Prop := s = z ∧ ∀ i, i < n → q i = r i
def EqH (M M' : Mm) : Prop := ∀ k j, ¬ (k = 57 ∧ (j = 16 ∨ j = 17)) → k ≠ 67 → k ≠ 68 → M' k j = M k j
theorem EqH.rf {M : Mm} : EqH M M := fun _ _ _ _ _ => rfl
theorem EqH.tr {M M1 M2 : Mm} (h1 : EqH M M1) (h2 : EqH M1 M2) : EqH M M2 := fun k j h g e => (h2 k j h g e).trans (h1 k j h g e)
theorem EqH.ofG {M M' : Mm} (h : EqG M M') : EqH M M' := fun k j a _ c => h k j a c
theorem EqH.set {M : Mm} {i : Nat} {v : Int32} : EqH M (mset M 67 i v) := fun k j _ b _ => mset_off (fun z => b z.1)
theorem EqH.r58 {M M' : Mm} (h : EqH M M') : M' 58 = M 58 := funext fun j => h 58 j (by omega) (by omega) (by omega)
def RgS (S : BS) (z D n : Nat) : Prop := ∀ (M : Mm) (Q : Po) (r : RW) (m : Nat) (b : RW) (g : Nat), MK (M 58) S → rowOK S r n → (∀ i, i < n → M 67 i = nI (r i)) → BR S M (befM z n r) m b g → (∀ M' m' b' g', EqH M M' → (∀ i, i < n → M' 67 i = M 67 i) → BR S M' (fun s q => befM z n r s q ∨ pfxM z n r s q) m' b' g' → Q M' none) → Call D mM_ringsOn [.ref 57, .int (nI n), .int (nI z)] M Q
theorem SM_ringsS {d : Nat} {S : BS} {z n : Nat} (hH : HM S) (hz : 2 ≤ z ∧ z ≤ 4) (hn : 1 ≤ n ∧ n ≤ z) (ihg : n < z → RgS S z (d + 5) (n + 1)) : RgS S z (d + 6) n := by
  intro M Q r m b g hM hrow h67 hB h
  have hw := hM.wf.nd
  refine Call_of (m := mM_ringsOn) [some (.ref 57), some (.int (nI n)), some (.int (nI z)), none] rfl (fun G => Nat.le_of_ble_eq_true rfl) (fun G => rfl) ?_
  refine g_iload_n dX10_ringsOn_0 rfl ?_
  refine g_iload_n dX10_ringsOn_1 rfl ?_
  refine g_icmp_ne_n 11 dX10_ringsOn_2 (by decide) (by omega) (by omega) (fun c2 => ?_) (fun c2 => ?_)
  · refine g_iconst (nI 0) dX10_ringsOn_11 ki_0 ?_
    refine g_ist4_3 dX10_ringsOn_12 (by decide) rfl ?_
    refine loop_up (P := fun y => ∀ M2 m2 b2 g2, EqH M M2 → (∀ i, i < n → M2 67 i = M 67 i) → BR S M2 (fun s q => befM z n r s q ∨ (pfxM z n r s q ∧ q n < y)) m2 b2 g2 → Go mM_ringsOn (d + 6) Q 13 [some (.ref 57), some (.int (nI n)), some (.int (nI z)), some (.int (nI y))] [] M2) (S 1 0 0) ?_ 0 (Nat.zero_le _) M m b g EqH.rf (fun _ _ => rfl) (BR_keep hB (fun s q hs _ => Or.inl (by
      rcases hs with hs | ⟨_, hs⟩
      · exact hs
      · omega)) (fun _ h2 => Or.inl h2))
    intro y hy ihy M2 m2 b2 g2 hE2 h672 hB2
    have hM2 : MK (M2 58) S := by rw [hE2.r58]; exact hM
    refine g_iload_n dX10_ringsOn_13 rfl ?_
    refine g_aload_n dX10_ringsOn_14 rfl ?_
    refine g_getr (j := 0) dX10_ringsOn_15 gc10 rfl (by decide) rfl (by decide) fl_M_9 ?_
    refine g_iconst (nI 2) dX10_ringsOn_18 ki_2 ?_
    refine g_iald_n dX10_ringsOn_19 (by first | rfl | assumption) (by first | decide | assumption) (by omega) (by omega) ?_
    try simp (disch := omega) only [hM2.nd]
    refine g_icmp_ge_n 53 dX10_ringsOn_20 (by decide) (by omega) (by omega) (fun c20 => ?_) (fun c20 => ?_)
    · refine g_return dX10_ringsOn_53 rfl ?_
      refine h M2 m2 b2 g2 hE2 h672 (BR_keep hB2 (fun s q hs hq => Or.inl ?_) (fun h1 h2 => ?_))
      · rcases hs with hs | hs
        · exact Or.inl hs
        · exact Or.inr ⟨hs, by have := (hq.2.2.1 n (by have := hs.1; omega)).1; omega⟩
      · rcases h2 with h2 | h2
        · exact Or.inl h2
        · exact Or.inr h2.1
    · refine g_aload_n dX10_ringsOn_23 rfl ?_
      refine g_iload_n dX10_ringsOn_24 rfl ?_
      refine g_iload_n dX10_ringsOn_25 rfl ?_
      refine g_call2 dX10_ringsOn_26 clM_follows ml_M_212 gc10 rfl rfl (by decide) (Nat.le_of_ble_eq_true rfl) ?_
      refine SM_follows hM2 (by omega) (by omega) (fun i hi => by rw [h672 i hi]; exact h67 i hi) hrow ?_
      by_cases hf : S 12 y 0 < 8 ∧ S 11 y 0 = S 11 (r 0) 0 ∧ r 0 < y ∧ (∀ j, j < n → S 12 (r j) 0 ≠ S 12 y 0) ∧ mayB S (S 12 y 0) (r (n - 1)) = true
      · rw [show folB S r n y = true from decide_eq_true hf]
        obtain ⟨f1, f2, f3, f4, f5⟩ := hf
        refine g_if_eq_tt 47 dX10_ringsOn_29 (by decide) ?_
        refine g_aload_n dX10_ringsOn_32 rfl ?_
        refine g_getr (j := 14) dX10_ringsOn_33 gc10 rfl (by decide) rfl (by decide) fl_M_38 ?_
        refine g_iload_n dX10_ringsOn_36 rfl ?_
        refine g_iload_n dX10_ringsOn_37 rfl ?_
        refine g_iast_n dX10_ringsOn_38 (by first | rfl | assumption) (by first | decide | assumption) (by omega) (by omega) ?_
        refine g_aload_n dX10_ringsOn_39 rfl ?_
        refine g_iload_n dX10_ringsOn_40 rfl ?_
        refine g_iconst (nI 1) dX10_ringsOn_41 ki_1 ?_
        first | refine g_iadd_n dX10_ringsOn_42 ?_ | refine g_iadd dX10_ringsOn_42 ?_
        refine g_iload_n dX10_ringsOn_43 rfl ?_
        refine g_call2 dX10_ringsOn_44 clM_ringsOn ml_M_215 gc10 rfl rfl (by decide) (Nat.le_of_ble_eq_true rfl) ?_
        obtain ⟨p, hp⟩ : ∃ p : RW, p = fun i => if i = n then y else r i := ⟨_, rfl⟩
        have hpr : ∀ i, i < n → p i = r i := fun i hi => by rw [hp]; dsimp only; rw [if_neg (by omega)]
        have hpn : p n = y := by rw [hp]; dsimp only; rw [if_pos rfl]
        refine ihg (by omega) (mset M2 67 n (nI y)) _ p m2 b2 g2 (by rw [mset_ne (by decide)]; exact hM2) (fun i hi => ?_) (fun i hi => ?_) (BR_keep (hB2.off (fun j _ => mset_off (by omega)) (mset_ne (by decide))) (fun s q hs hq => Or.inl ?_) (fun h1 h2 => ?_)) (fun M3 m3 b3 g3 hE3 h673 hB3 => ?_)
        · by_cases e : i = n
          · subst e
            rw [hpn]
            refine ⟨by omega, f1, ?_, fun _ => ⟨?_, ?_⟩, fun j hj => ?_⟩
            · rw [hpr 0 (by omega)]; exact f2
            · rw [hpr 0 (by omega)]; exact f3
            · rw [hpr (i - 1) (by omega)]; exact f5
            · rw [hpr j hj]; exact f4 j hj
          · obtain ⟨z1, z2, z3, z4, z5⟩ := hrow i (by omega)
            rw [hpr i (by omega), hpr 0 (by omega)]
            refine ⟨z1, z2, z3, fun h0 => ?_, fun j hj => ?_⟩
            · rw [hpr (i - 1) (by omega)]; exact z4 h0
            · rw [hpr j (by omega)]; exact z5 j hj
        · by_cases e : i = n
          · subst e; rw [mset_at, hpn]
          · rw [mset_off (by omega), h672 i (by omega), hpr i (by omega)]; exact h67 i (by omega)
        · rcases hs with hs | ⟨hs, j, h1, h2, h3⟩
          · exact Or.inl (Or.inl hs)
          · by_cases e : j = n
            · subst e
              rw [hpn] at h3
              exact Or.inr ⟨⟨hs, fun i hi => (h2 i hi).trans (hpr i hi)⟩, h3⟩
            · exact Or.inl (Or.inr ⟨hs, j, by omega, fun i hi => (h2 i hi).trans (hpr i (by omega)), by rw [← hpr j (by omega)]; exact h3⟩)
        · rcases h2 with (h2 | ⟨h2, j, h3, h4, h5⟩) | ⟨⟨h2, h3⟩, h4⟩
          · exact Or.inl h2
          · exact Or.inr ⟨h2, j, by omega, fun i hi => (h4 i hi).trans (hpr i (by omega)).symm, by rw [hpr j h3]; exact h5⟩
          · exact Or.inr ⟨h2, n, by omega, fun i hi => (h3 i hi).trans (hpr i hi).symm, by rw [hpn]; exact h4⟩
        · skip
          first | refine g_incn4_3 dX10_ringsOn_47 ki_1 (by decide) rfl ?_ | refine g_incg4_3 (nI 1) dX10_ringsOn_47 ki_1 (by decide) rfl ?_
          refine g_goto 13 dX10_ringsOn_50 (by decide) ?_
          refine ihy (by omega) M3 m3 b3 g3 (hE2.tr (EqH.set.tr hE3)) (fun i hi => by rw [h673 i (by omega), mset_off (by omega)]; exact h672 i hi) (BR_keep hB3 (fun s q hs hq => Or.inl ?_) (fun h1 h2 => ?_))
          · rcases hs with (hs | ⟨hs, j, h3, h4, h5⟩) | ⟨⟨hs, h3⟩, h4⟩
            · exact Or.inl (Or.inl hs)
            · exact Or.inl (Or.inr ⟨hs, j, by omega, fun i hi => (h4 i hi).trans (hpr i (by omega)).symm, by rw [hpr j h3]; exact h5⟩)
            · by_cases e : q n = y
              · refine Or.inr ⟨hs, fun i hi => ?_⟩
                by_cases e2 : i = n
                · rw [e2, e, hpn]
                · rw [h3 i (by omega), hpr i (by omega)]
              · exact Or.inl (Or.inr ⟨hs, n, by omega, fun i hi => (h3 i hi).trans (hpr i hi).symm, by rw [hpn]; omega⟩)
          · rcases h2 with (h2 | ⟨h2, j, h3, h4, h5⟩) | ⟨h2, h3⟩
            · exact Or.inl (Or.inl h2)
            · by_cases e : j = n
              · subst e
                rw [hpn] at h5
                exact Or.inr ⟨⟨h2, fun i hi => (h4 i hi).trans (hpr i hi)⟩, by omega⟩
              · exact Or.inl (Or.inr ⟨h2, j, by omega, fun i hi => (h4 i hi).trans (hpr i (by omega)), by rw [← hpr j (by omega)]; exact h5⟩)
            · exact Or.inr ⟨⟨h2, fun i hi => (h3 i (by omega)).trans (hpr i hi)⟩, by rw [h3 n (by omega), hpn]; omega⟩
      · rw [show folB S r n y = false from decide_eq_false hf]
        refine g_if_eq_ff 47 dX10_ringsOn_29 (by decide) ?_
        first | refine g_incn4_3 dX10_ringsOn_47 ki_1 (by decide) rfl ?_ | refine g_incg4_3 (nI 1) dX10_ringsOn_47 ki_1 (by decide) rfl ?_
        refine g_goto 13 dX10_ringsOn_50 (by decide) ?_
        refine ihy (by omega) M2 m2 b2 g2 hE2 h672 (BR_keep hB2 (fun s q hs hq => Or.inl ?_) (fun h1 h2 => ?_))
        · rcases hs with hs | ⟨⟨hs, h3⟩, h4⟩
          · exact Or.inl hs
          · by_cases e : q n = y
            · exfalso
              obtain ⟨z1, z2, z3, z4, z5⟩ := hq.2.2.1 n (by omega)
              obtain ⟨y1, y2⟩ := z4 (by omega)
              rw [e] at z1 z2 z3 y1 y2 z5
              rw [h3 0 (by omega)] at z3 y1
              rw [h3 (n - 1) (by omega)] at y2
              exact hf ⟨z2, z3, y1, fun j hj => by have := z5 j hj; rw [h3 j hj] at this; exact this, y2⟩
            · exact Or.inr ⟨⟨hs, h3⟩, by omega⟩
        · rcases h2 with h2 | ⟨h2, h3⟩
          · exact Or.inl h2
          · exact Or.inr ⟨h2, by omega⟩
  · have e : n = z := by omega
    subst e
    refine g_aload_n dX10_ringsOn_5 rfl ?_
    refine g_iload_n dX10_ringsOn_6 rfl ?_
    refine g_call1 dX10_ringsOn_7 clM_looksAt ml_M_209 gc10 rfl rfl (by decide) (Nat.le_of_ble_eq_true rfl) ?_
    refine SM_looksAt hM hH hz h67 hrow hB (fun s q hs _ => ?_) (fun M' m' b' g' hE' hB' => ?_)
    · rcases hs with hs | ⟨hs, j, h1, h2, h3⟩
      · exact Or.inl hs
      · exact Or.inr ⟨hs, j, h1, h2, h3⟩
    · skip
      refine g_return dX10_ringsOn_10 rfl ?_
      refine h M' m' b' g' (EqH.ofG hE') (fun i _ => by rw [hE'.row (by decide) (by decide)]) (BR_keep hB' (fun s q hs _ => Or.inl ?_) (fun _ h2 => ?_))
      · rcases hs with hs | ⟨h1, h2⟩
        · exact Or.inl hs
        · exact Or.inr ⟨h1.symm, fun i hi => (h2 i hi).symm⟩
      · rcases h2 with h2 | ⟨h1, h2⟩
        · exact Or.inl h2
        · exact Or.inr ⟨h1.symm, fun i hi => (h2 i (by omega)).symm⟩
theorem SM_rings {S : BS} {z : Nat} (hH : HM S) (hz : 2 ≤ z ∧ z ≤ 4) : ∀ t n, n + t = z → 1 ≤ n → ∀ d, RgS S z (d + t + 6) n := by
  intro t
  induction t with
  | zero => exact fun n hn h1 d => SM_ringsS hH hz (by omega) (fun y => absurd y (by omega))
  | succ t ih =>
    intro n hn h1 d
    have := ih (n + 1) (by omega) (by omega) d
    rw [show d + t + 6 = d + t + 1 + 5 by omega] at this
    have y := SM_ringsS hH hz (d := d + t + 1) ⟨h1, by omega⟩ (fun _ => this)
    rw [show d + t + 1 + 6 = d + (t + 1) + 6 by omega] at y
    exact y
/-! RINGS in the reference: findsRing -/
theorem SM_findsRing {d : Nat} {M : Mm} {S : BS} {Q : Po} (hM : MK (M 58) S) (hH : HM S) (h : ∀ M' m b g, EqH M M' → BR S M' (fun _ _ => True) m b g → Q M' none) : Call (d + 10) mM_findsRing [.ref 57] M Q := by
  have hw := hM.wf.nd
  refine Call_of (m := mM_findsRing) [some (.ref 57), none, none] rfl (fun G => Nat.le_of_ble_eq_true rfl) (fun G => rfl) ?_
  refine g_aload_n dX10_findsRing_0 rfl ?_
  refine g_iconst (nI 0) dX10_findsRing_1 ki_0 ?_
  refine g_puti (j := 16) dX10_findsRing_2 gc10 rfl (by decide) rfl (by decide) fl_M_206 rfl (tyX10_ok 16 (by decide)) (by first | rfl | exact nar_bI _) rfl ?_
  refine g_aload_n dX10_findsRing_5 rfl ?_
  refine g_iconst (nI 0) dX10_findsRing_6 ki_0 ?_
  refine g_puti (j := 17) dX10_findsRing_7 gc10 rfl (by decide) rfl (by decide) fl_M_203 rfl (tyX10_ok 17 (by decide)) (by first | rfl | exact nar_bI _) rfl ?_
  refine g_iconst (nI 2) dX10_findsRing_10 ki_2 ?_
  refine g_ist3_1 dX10_findsRing_11 (by decide) rfl ?_
  suffices hloop : ∀ t z, z + t = 5 → 2 ≤ z → ∀ M' m b g, EqH M M' → BR S M' (fun s _ => s < z) m b g → Go mM_findsRing (d + 10) Q 12 [some (.ref 57), some (.int (nI z)), none] [] M' by
    refine hloop 3 2 rfl (Nat.le_refl 2) _ 0 (fun _ => 0) 0 (fun k j a b c => ?_) ⟨?_, mset_at _ _ _ _, by omega, by omega, fun _ => rfl, fun y => absurd y (by omega), fun i hi => absurd hi (by omega), Or.inl ⟨rfl, fun s q y hq => ?_⟩⟩
    · rw [mset_off (by omega), mset_off (by omega)]
    · rw [mset_off (by omega), mset_at]
    · have := hq.1; omega
  intro t
  induction t with
  | zero =>
    intro z hzt hz M' m b g hE hB
    refine g_iload_n dX10_findsRing_12 rfl ?_
    refine g_iconst (nI 4) dX10_findsRing_13 ki_4 ?_
    refine g_icmp_gt_n 62 dX10_findsRing_14 (by decide) (by omega) (by omega) (fun c14 => ?_) (fun c14 => ?_)
    · refine g_return dX10_findsRing_62 rfl ?_
      exact h M' m b g hE (BR_keep hB (fun s q _ hq => Or.inl (by have := hq.2.1; omega)) (fun _ _ => trivial))
    · exact absurd hzt (by omega)
  | succ t ih =>
    intro z hzt hz M' m b g hE hB
    refine g_iload_n dX10_findsRing_12 rfl ?_
    refine g_iconst (nI 4) dX10_findsRing_13 ki_4 ?_
    refine g_icmp_gt_n 62 dX10_findsRing_14 (by decide) (by omega) (by omega) (fun c14 => ?_) (fun c14 => ?_)
    · exact absurd hzt (by omega)
    · refine g_iconst (nI 0) dX10_findsRing_17 ki_0 ?_
      refine g_ist3_2 dX10_findsRing_18 (by decide) rfl ?_
      refine loop_up (P := fun y => ∀ M2 m2 b2 g2, EqH M M2 → BR S M2 (fun s q => s < z ∨ (s = z ∧ q 0 < y)) m2 b2 g2 → Go mM_findsRing (d + 10) Q 19 [some (.ref 57), some (.int (nI z)), some (.int (nI y))] [] M2) (S 1 0 0) ?_ 0 (Nat.zero_le _) M' m b g hE (BR_keep hB (fun s q hs _ => Or.inl (by omega)) (fun _ h2 => Or.inl h2))
      intro y hy ihy M2 m2 b2 g2 hE2 hB2
      have hM2 : MK (M2 58) S := by rw [hE2.r58]; exact hM
      refine g_iload_n dX10_findsRing_19 rfl ?_
      refine g_aload_n dX10_findsRing_20 rfl ?_
      refine g_getr (j := 0) dX10_findsRing_21 gc10 rfl (by decide) rfl (by decide) fl_M_9 ?_
      refine g_iconst (nI 2) dX10_findsRing_24 ki_2 ?_
      refine g_iald_n dX10_findsRing_25 (by first | rfl | assumption) (by first | decide | assumption) (by omega) (by omega) ?_
      try simp (disch := omega) only [hM2.nd]
      refine g_icmp_ge_n 56 dX10_findsRing_26 (by decide) (by omega) (by omega) (fun c26 => ?_) (fun c26 => ?_)
      · first | refine g_incn3_1 dX10_findsRing_56 ki_1 (by decide) rfl ?_ | refine g_incg3_1 (nI 1) dX10_findsRing_56 ki_1 (by decide) rfl ?_
        refine g_goto 12 dX10_findsRing_59 (by decide) ?_
        refine Go_sub [some (.ref 57), some (.int (nI (z + 1))), none] (by simp [subL]) (ih (z + 1) (by omega) (by omega) M2 m2 b2 g2 hE2 (BR_keep hB2 (fun s q hs hq => Or.inl ?_) (fun _ h2 => by omega)))
        have := (hq.2.2.1 0 (by have := hq.1; omega)).1
        omega
      · have hdy := hM.wf.dk (d := y) (by omega)
        refine g_aload_n dX10_findsRing_29 rfl ?_
        refine g_iload_n dX10_findsRing_30 rfl ?_
        refine g_call1 dX10_findsRing_31 clM_holder ml_M_78 gc10 rfl rfl (by decide) (Nat.le_of_ble_eq_true rfl) ?_
        refine SM_holder hM2 (by omega) ?_
        refine g_if_lt 50 dX10_findsRing_34 (by decide) (fun c34 => ?_) (fun c34 => ?_)
        · rw [hv_lt hdy.2.2] at c34
          first | refine g_incn3_2 dX10_findsRing_50 ki_1 (by decide) rfl ?_ | refine g_incg3_2 (nI 1) dX10_findsRing_50 ki_1 (by decide) rfl ?_
          refine g_goto 19 dX10_findsRing_53 (by decide) ?_
          refine ihy (by omega) M2 m2 b2 g2 hE2 (BR_keep hB2 (fun s q hs hq => Or.inl ?_) (fun _ h2 => by omega))
          have h8 := (hq.2.2.1 0 (by have := hq.1; omega)).2.1
          by_cases e : q 0 = y
          · rw [e] at h8; omega
          · omega
        · rw [hv_lt hdy.2.2] at c34
          refine g_aload_n dX10_findsRing_37 rfl ?_
          refine g_getr (j := 14) dX10_findsRing_38 gc10 rfl (by decide) rfl (by decide) fl_M_38 ?_
          refine g_iconst (nI 0) dX10_findsRing_41 ki_0 ?_
          refine g_iload_n dX10_findsRing_42 rfl ?_
          refine g_iast_n dX10_findsRing_43 (by first | rfl | assumption) (by first | decide | assumption) (by omega) (by omega) ?_
          refine g_aload_n dX10_findsRing_44 rfl ?_
          refine g_iconst (nI 1) dX10_findsRing_45 ki_1 ?_
          refine g_iload_n dX10_findsRing_46 rfl ?_
          refine g_call2 dX10_findsRing_47 clM_ringsOn ml_M_215 gc10 rfl rfl (by decide) (Nat.le_of_ble_eq_true rfl) ?_
          have hrg := SM_rings (S := S) (z := z) hH (by omega) (z - 1) 1 (by omega) (Nat.le_refl 1) (d + 4 - z)
          rw [show d + 4 - z + (z - 1) + 6 = d + 9 by omega] at hrg
          refine hrg (mset M2 67 0 (nI y)) _ (fun _ => y) m2 b2 g2 (by rw [mset_ne (by decide)]; exact hM2) (fun i hi => ?_) (fun i hi => ?_) (BR_keep (hB2.off (fun j _ => mset_off (by omega)) (mset_ne (by decide))) (fun s q hs hq => Or.inl ?_) (fun _ h2 => ?_)) (fun M3 m3 b3 g3 hE3 h673 hB3 => ?_)
          · obtain rfl : i = 0 := by omega
            exact ⟨show y < S 1 0 0 by omega, show S 12 y 0 < 8 by omega, rfl, fun y => absurd y (by omega), fun j hj => absurd hj (by omega)⟩
          · obtain rfl : i = 0 := by omega
            rw [mset_at]
          · rcases hs with hs | ⟨hs, j, h1, h2, h3⟩
            · exact Or.inl hs
            · obtain rfl : j = 0 := by omega
              exact Or.inr ⟨hs, h3⟩
          · rcases h2 with h2 | ⟨h2, h3⟩
            · exact Or.inl h2
            · exact Or.inr ⟨h2, 0, by omega, fun i hi => absurd hi (by omega), h3⟩
          · skip
            first | refine g_incn3_2 dX10_findsRing_50 ki_1 (by decide) rfl ?_ | refine g_incg3_2 (nI 1) dX10_findsRing_50 ki_1 (by decide) rfl ?_
            refine g_goto 19 dX10_findsRing_53 (by decide) ?_
            refine ihy (by omega) M3 m3 b3 g3 (hE2.tr (EqH.set.tr hE3)) (BR_keep hB3 (fun s q hs hq => Or.inl ?_) (fun _ h2 => ?_))
            · rcases hs with hs | ⟨hs, h3⟩
              · exact Or.inl (Or.inl hs)
              · by_cases e : q 0 = y
                · refine Or.inr ⟨hs, fun i hi => ?_⟩
                  obtain rfl : i = 0 := by omega
                  exact e
                · exact Or.inl (Or.inr ⟨hs, 0, by omega, fun i hi => absurd hi (by omega), show q 0 < y by omega⟩)
            · rcases h2 with (h2 | ⟨h2, j, h3, h4, h5⟩) | ⟨h2, h3⟩
              · exact Or.inl h2
              · obtain rfl : j = 0 := by omega
                dsimp only at h5
                exact Or.inr ⟨h2, by omega⟩
              · have h3 := h3 0 (by omega)
                dsimp only at h3
                exact Or.inr ⟨h2, by omega⟩
/-! RINGS: the best one, alike on both sides -/
noncomputable def bsR (S : BS) : Nat × RW := @dite (Nat × RW) (∃ x : Nat × RW, BstP S (fun _ _ => True) x.1 x.2) (Classical.propDecidable _) (fun h => Classical.choose h) (fun _ => (0, fun _ => 0))
theorem bsR_is {S : BS} {m : Nat} {b : RW} (h : BstP S (fun _ _ => True) m b) : BstP S (fun _ _ => True) (bsR S).1 (bsR S).2 := by
  have hx : ∃ x : Nat × RW, BstP S (fun _ _ => True) x.1 x.2 := ⟨(m, b), h⟩
  unfold bsR
  rw [dif_pos hx]
  exact Classical.choose_spec hx
theorem bsR_eq {S : BS} {m : Nat} {b : RW} (h : BstP S (fun _ _ => True) m b) : m = (bsR S).1 ∧ ∀ i, i < m → b i = (bsR S).2 i := Bst_uniq (fun _ _ _ => trivial) h (bsR_is h)
noncomputable def bgR (S : BS) : Nat := if (bsR S).1 = 0 then 0 else (gnR S (bsR S).2 (bsR S).1).toNat
theorem bgR_eq {S : BS} {m g : Nat} {b : RW} (h : BstP S (fun _ _ => True) m b) (h0 : m = 0 → g = 0) (hg : 0 < m → (g : Int) = gnR S b m) : g = bgR S := by
  obtain ⟨e1, e2⟩ := bsR_eq h
  unfold bgR
  by_cases z : m = 0
  · rw [if_pos (by omega)]
    exact h0 z
  · rw [if_neg (by omega), ← e1, ← gn_cong e2 (by omega), ← hg (by omega)]
    rfl
theorem BM.out {S : BS} {M : Mm} {m g : Nat} {b : RW} (h : BM S M (fun _ _ => True) m b g) : m = (bsR S).1 ∧ M 35 8 = nI (bsR S).1 ∧ M 35 9 = nI (bgR S) ∧ (bsR S).1 ≤ 4 ∧ (∀ i, i < (bsR S).1 → M 40 i = nI ((bsR S).2 i) ∧ (bsR S).2 i < 24) ∧ BstP S (fun _ _ => True) (bsR S).1 (bsR S).2 := by
  obtain ⟨h8, h9, hm4, hg, h0, hgn, h40, hb⟩ := h
  obtain ⟨e1, e2⟩ := bsR_eq hb
  refine ⟨e1, by rw [← e1]; exact h8, by rw [← bgR_eq hb h0 hgn]; exact h9, by omega, fun i hi => ?_, bsR_is hb⟩
  rw [← e2 i (by omega)]
  exact h40 i (by omega)
theorem BR.out {S : BS} {M : Mm} {m g : Nat} {b : RW} (h : BR S M (fun _ _ => True) m b g) : m = (bsR S).1 ∧ M 57 16 = nI (bsR S).1 ∧ M 57 17 = nI (bgR S) ∧ (bsR S).1 ≤ 4 ∧ (∀ i, i < (bsR S).1 → M 68 i = nI ((bsR S).2 i) ∧ (bsR S).2 i < 24) ∧ BstP S (fun _ _ => True) (bsR S).1 (bsR S).2 := by
  obtain ⟨h8, h9, hm4, hg, h0, hgn, h40, hb⟩ := h
  obtain ⟨e1, e2⟩ := bsR_eq hb
  refine ⟨e1, by rw [← e1]; exact h8, by rw [← bgR_eq hb h0 hgn]; exact h9, by omega, fun i hi => ?_, bsR_is hb⟩
  rw [← e2 i (by omega)]
  exact h40 i (by omega)
/-! RINGS: handed on; in the class -/
def hnD (S : BS) (b : RW) : Nat → BS
  | 0 => S
  | i + 1 => up (hnD S b i) 12 (b i) 0 (S 12 (b (i + 1)) 0)
def hnR (S : BS) (b : RW) (m : Nat) : BS := up (hnD S b (m - 1)) 12 (b (m - 1)) 0 (S 12 (b 0) 0)
theorem hnD_oth {S : BS} {b : RW} {a : Nat} (h : a ≠ 12) : ∀ i, hnD S b i a = S a
  | 0 => rfl
  | i + 1 => by
    funext x c
    rw [hnD, up_off (fun z => h z.1), hnD_oth h i]
theorem hnD_at {S : BS} {b : RW} {x : Nat} : ∀ i, (∀ j, j < i → b j ≠ x) → hnD S b i 12 x 0 = S 12 x 0
  | 0, _ => rfl
  | i + 1, h => by
    rw [hnD, up_off (fun z => h i (by omega) z.2.1.symm), hnD_at i (fun j hj => h j (by omega))]
theorem ring_ne {S : BS} {b : RW} {m i j : Nat} (h : rowOK S b m) (hij : i < j) (hj : j < m) : b i ≠ b j := fun z => (h j hj).2.2.2.2 i hij (by rw [z])
theorem SG_handOn {d : Nat} {M : Mm} {S : BS} {Q : Po} {b : RW} {m : Nat} (hB : BK M S) (hr : ringOK S b m) (h8 : M 35 8 = nI m) (h40 : ∀ i, i < m → M 40 i = nI (b i)) (h : ∀ M', EqO [2] M M' → BK M' (hnR S b m) → Q M' none) : Call (d + 3) mG_handOn [.ref 35] M Q := by
  have hm2 := hr.1
  have hm4 := hr.2.1
  have hrow := hr.2.2.1
  have hw := hB.wf.nd
  have e1 : ∀ i, hnD S b i 1 0 0 = S 1 0 0 := fun i => by rw [hnD_oth (by decide)]
  have x0 := h40 0 (by omega)
  have hr0 := hrow 0 (by omega)
  refine Call_of (m := mG_handOn) [some (.ref 35), none, none] rfl (fun G => Nat.le_of_ble_eq_true rfl) (fun G => rfl) ?_
  refine g_aload_n dX5_handOn_0 rfl ?_
  refine g_geti (j := 8) dX5_handOn_1 gc5 rfl (by decide) rfl (by decide) fl_G_38 ?_
  try simp (disch := omega) only [h8, x0]
  refine g_iconst (nI 2) dX5_handOn_4 ki_2 ?_
  refine g_icmp_lt_n 16 dX5_handOn_5 (by decide) (by omega) (by omega) (fun c5 => ?_) (fun c5 => ?_)
  · exact absurd hm2 (by omega)
  · refine g_aload_n dX5_handOn_8 rfl ?_
    refine g_geti (j := 8) dX5_handOn_9 gc5 rfl (by decide) rfl (by decide) fl_G_38 ?_
    try simp (disch := omega) only [h8, x0]
    refine g_iconst (nI 4) dX5_handOn_12 ki_4 ?_
    refine g_icmp_le_n 17 dX5_handOn_13 (by decide) (by omega) (by omega) (fun c13 => ?_) (fun c13 => ?_)
    · refine g_aload_n dX5_handOn_17 rfl ?_
      refine g_getr (j := 0) dX5_handOn_18 gc5 rfl (by decide) rfl (by decide) fl_G_27 ?_
      refine g_aload_n dX5_handOn_21 rfl ?_
      refine g_getr (j := 5) dX5_handOn_22 gc5 rfl (by decide) rfl (by decide) fl_G_24 ?_
      refine g_iconst (nI 0) dX5_handOn_25 ki_0 ?_
      refine g_iald_n dX5_handOn_26 (by first | rfl | assumption) (by first | decide | assumption) (by omega) (by omega) ?_
      try simp (disch := omega) only [h8, x0]
      refine g_call1 dX5_handOn_27 clB_holderOf ml_G_64 gc0 rfl rfl (by decide) (Nat.le_of_ble_eq_true rfl) ?_
      refine SB_holderOf hB hr0.1 ?_
      rw [hv_p (p := S 12 (b 0) 0) hr0.2.1]
      refine g_ist3_1 dX5_handOn_30 (by decide) rfl ?_
      refine g_iconst (nI 1) dX5_handOn_31 ki_1 ?_
      refine g_ist3_2 dX5_handOn_32 (by decide) rfl ?_
      refine loop_up (P := fun i => 1 ≤ i → ∀ M', EqO [2] M M' → BK M' (hnD S b (i - 1)) → Go mG_handOn (d + 3) Q 33 [some (.ref 35), some (.int (nI (S 12 (b 0) 0))), some (.int (nI i))] [] M') m ?_ 1 (by omega) (Nat.le_refl 1) M EqO.rf hB
      intro i hi ih h1 M' hE hB'
      have g8 : M' 35 8 = nI m := by rw [hE 35 (by decide)]; exact h8
      have g40 : ∀ i, i < m → M' 40 i = nI (b i) := fun i hi => by rw [hE 40 (by decide)]; exact h40 i hi
      have y1 := g40 (i - 1) (by omega)
      have hr1 := hrow (i - 1) (by omega)
      refine g_iload_n dX5_handOn_33 rfl ?_
      refine g_aload_n dX5_handOn_34 rfl ?_
      refine g_geti (j := 8) dX5_handOn_35 gc5 rfl (by decide) rfl (by decide) fl_G_38 ?_
      try simp (disch := omega) only [g8, y1]
      refine g_icmp_ge_n 75 dX5_handOn_38 (by decide) (by omega) (by omega) (fun c38 => ?_) (fun c38 => ?_)
      · obtain rfl : i = m := by omega
        refine g_aload_n dX5_handOn_75 rfl ?_
        refine g_getr (j := 0) dX5_handOn_76 gc5 rfl (by decide) rfl (by decide) fl_G_27 ?_
        refine g_aload_n dX5_handOn_79 rfl ?_
        refine g_getr (j := 5) dX5_handOn_80 gc5 rfl (by decide) rfl (by decide) fl_G_24 ?_
        refine g_aload_n dX5_handOn_83 rfl ?_
        refine g_geti (j := 8) dX5_handOn_84 gc5 rfl (by decide) rfl (by decide) fl_G_38 ?_
        try simp (disch := omega) only [g8, y1]
        refine g_iconst (nI 1) dX5_handOn_87 ki_1 ?_
        first | refine g_isub_n dX5_handOn_88 (by omega) ?_ | refine g_isub dX5_handOn_88 ?_
        refine g_iald_n dX5_handOn_89 (by first | rfl | assumption) (by first | decide | assumption) (by omega) (by omega) ?_
        try simp (disch := omega) only [g8, y1]
        refine g_iload_n dX5_handOn_90 rfl ?_
        refine g_call2 dX5_handOn_91 clB_putHolder ml_G_96 gc0 rfl rfl (by decide) (Nat.le_of_ble_eq_true rfl) ?_
        rw [← hv_p (p := S 12 (b 0) 0) hr0.2.1]
        refine SB_putHolder hB' (by rw [e1]; exact hr1.1) ?_
        refine g_return dX5_handOn_94 rfl ?_
        exact h _ (hE.tr (EqO.set (by decide))) (hB'.hol1 (by rw [e1]; exact hr1.1) (by omega))
      · have y2 := g40 i (by omega)
        have hr2 := hrow i (by omega)
        refine g_aload_n dX5_handOn_41 rfl ?_
        refine g_getr (j := 0) dX5_handOn_42 gc5 rfl (by decide) rfl (by decide) fl_G_27 ?_
        refine g_aload_n dX5_handOn_45 rfl ?_
        refine g_getr (j := 5) dX5_handOn_46 gc5 rfl (by decide) rfl (by decide) fl_G_24 ?_
        refine g_iload_n dX5_handOn_49 rfl ?_
        refine g_iconst (nI 1) dX5_handOn_50 ki_1 ?_
        first | refine g_isub_n dX5_handOn_51 (by omega) ?_ | refine g_isub dX5_handOn_51 ?_
        refine g_iald_n dX5_handOn_52 (by first | rfl | assumption) (by first | decide | assumption) (by omega) (by omega) ?_
        try simp (disch := omega) only [g8, y1, y2]
        refine g_aload_n dX5_handOn_53 rfl ?_
        refine g_getr (j := 0) dX5_handOn_54 gc5 rfl (by decide) rfl (by decide) fl_G_27 ?_
        refine g_aload_n dX5_handOn_57 rfl ?_
        refine g_getr (j := 5) dX5_handOn_58 gc5 rfl (by decide) rfl (by decide) fl_G_24 ?_
        refine g_iload_n dX5_handOn_61 rfl ?_
        refine g_iald_n dX5_handOn_62 (by first | rfl | assumption) (by first | decide | assumption) (by omega) (by omega) ?_
        try simp (disch := omega) only [g8, y1, y2]
        refine g_call1 dX5_handOn_63 clB_holderOf ml_G_64 gc0 rfl rfl (by decide) (Nat.le_of_ble_eq_true rfl) ?_
        refine SB_holderOf hB' (by rw [e1]; exact hr2.1) ?_
        rw [hnD_at (i - 1) (fun j hj => ring_ne hrow (by omega) (by omega))]
        refine g_call2 dX5_handOn_66 clB_putHolder ml_G_96 gc0 rfl rfl (by decide) (Nat.le_of_ble_eq_true rfl) ?_
        refine SB_putHolder hB' (by rw [e1]; exact hr1.1) ?_
        first | refine g_incn3_2 dX5_handOn_69 ki_1 (by decide) rfl ?_ | refine g_incg3_2 (nI 1) dX5_handOn_69 ki_1 (by decide) rfl ?_
        refine g_goto 33 dX5_handOn_72 (by decide) ?_
        refine ih (by omega) (by omega) _ (hE.tr (EqO.set (by decide))) ?_
        have z := hB'.hol1 (e := b (i - 1)) (q := S 12 (b i) 0) (by rw [e1]; exact hr1.1) (by omega)
        rw [show i + 1 - 1 = i - 1 + 1 by omega, hnD, show i - 1 + 1 = i by omega]
        exact z
    · exact absurd hm4 (by omega)
/-! RINGS: handed on; in the reference -/
theorem SM_doesRing {d : Nat} {M : Mm} {S : BS} {Q : Po} {b : RW} {m : Nat} (hM : MK (M 58) S) (hr : ringOK S b m) (h16 : M 57 16 = nI m) (h68 : ∀ i, i < m → M 68 i = nI (b i)) (h : ∀ M', EqO [58] M M' → MK (M' 58) (hnR S b m) → Q M' none) : Call (d + 3) mM_doesRing [.ref 57] M Q := by
  have hm2 := hr.1
  have hm4 := hr.2.1
  have hrow := hr.2.2.1
  have hw := hM.wf.nd
  have e1 : ∀ i, hnD S b i 1 0 0 = S 1 0 0 := fun i => by rw [hnD_oth (by decide)]
  have x0 := h68 0 (by omega)
  have hr0 := hrow 0 (by omega)
  refine Call_of (m := mM_doesRing) [some (.ref 57), none, none] rfl (fun G => Nat.le_of_ble_eq_true rfl) (fun G => rfl) ?_
  refine g_aload_n dX10_doesRing_0 rfl ?_
  refine g_aload_n dX10_doesRing_1 rfl ?_
  refine g_getr (j := 15) dX10_doesRing_2 gc10 rfl (by decide) rfl (by decide) fl_M_41 ?_
  refine g_iconst (nI 0) dX10_doesRing_5 ki_0 ?_
  refine g_iald_n dX10_doesRing_6 (by first | rfl | assumption) (by first | decide | assumption) (by omega) (by omega) ?_
  try simp (disch := omega) only [x0]
  refine g_call1 dX10_doesRing_7 clM_holder ml_M_78 gc10 rfl rfl (by decide) (Nat.le_of_ble_eq_true rfl) ?_
  refine SM_holder hM hr0.1 ?_
  refine g_ist3_1 dX10_doesRing_10 (by decide) rfl ?_
  refine g_iconst (nI 0) dX10_doesRing_11 ki_0 ?_
  refine g_ist3_2 dX10_doesRing_12 (by decide) rfl ?_
  refine loop_up (P := fun i => ∀ M', EqO [58] M M' → MK (M' 58) (hnD S b i) → Go mM_doesRing (d + 3) Q 13 [some (.ref 57), some (.int (hv (S 12 (b 0) 0))), some (.int (nI i))] [] M') (m - 1) ?_ 0 (by omega) M EqO.rf hM
  intro i hi ih M' hE hM'
  have g16 : M' 57 16 = nI m := by rw [hE 57 (by decide)]; exact h16
  have g68 : ∀ i, i < m → M' 68 i = nI (b i) := fun i hi => by rw [hE 68 (by decide)]; exact h68 i hi
  have y1 := g68 (m - 1) (by omega)
  have hr1 := hrow (m - 1) (by omega)
  refine g_iload_n dX10_doesRing_13 rfl ?_
  refine g_aload_n dX10_doesRing_14 rfl ?_
  refine g_geti (j := 16) dX10_doesRing_15 gc10 rfl (by decide) rfl (by decide) fl_M_206 ?_
  try simp (disch := omega) only [g16, y1]
  refine g_iconst (nI 1) dX10_doesRing_18 ki_1 ?_
  first | refine g_isub_n dX10_doesRing_19 (by omega) ?_ | refine g_isub dX10_doesRing_19 ?_
  refine g_icmp_ge_n 56 dX10_doesRing_20 (by decide) (by omega) (by omega) (fun c20 => ?_) (fun c20 => ?_)
  · obtain rfl : i = m - 1 := by omega
    refine g_aload_n dX10_doesRing_56 rfl ?_
    refine g_getr (j := 0) dX10_doesRing_57 gc10 rfl (by decide) rfl (by decide) fl_M_9 ?_
    refine g_sipush (nI 299) dX10_doesRing_60 ks_299 ?_
    refine g_aload_n dX10_doesRing_63 rfl ?_
    refine g_getr (j := 15) dX10_doesRing_64 gc10 rfl (by decide) rfl (by decide) fl_M_41 ?_
    refine g_aload_n dX10_doesRing_67 rfl ?_
    refine g_geti (j := 16) dX10_doesRing_68 gc10 rfl (by decide) rfl (by decide) fl_M_206 ?_
    try simp (disch := omega) only [g16, y1]
    refine g_iconst (nI 1) dX10_doesRing_71 ki_1 ?_
    first | refine g_isub_n dX10_doesRing_72 (by omega) ?_ | refine g_isub dX10_doesRing_72 ?_
    refine g_iald_n dX10_doesRing_73 (by first | rfl | assumption) (by first | decide | assumption) (by omega) (by omega) ?_
    try simp (disch := omega) only [g16, y1]
    first | refine g_iadd_n dX10_doesRing_74 ?_ | refine g_iadd dX10_doesRing_74 ?_
    refine g_iload_n dX10_doesRing_75 rfl ?_
    refine g_iast_n dX10_doesRing_76 (by first | rfl | assumption) (by first | decide | assumption) (by omega) (by omega) ?_
    refine g_return dX10_doesRing_77 rfl ?_
    refine h _ (hE.tr (EqO.set (by decide))) ?_
    rw [mset_same]
    exact hM'.hol1 (by rw [e1]; exact hr1.1) (by omega)
  · have y2 := g68 i (by omega)
    have y3 := g68 (i + 1) (by omega)
    have hr2 := hrow i (by omega)
    have hr3 := hrow (i + 1) (by omega)
    refine g_aload_n dX10_doesRing_23 rfl ?_
    refine g_getr (j := 0) dX10_doesRing_24 gc10 rfl (by decide) rfl (by decide) fl_M_9 ?_
    refine g_sipush (nI 299) dX10_doesRing_27 ks_299 ?_
    refine g_aload_n dX10_doesRing_30 rfl ?_
    refine g_getr (j := 15) dX10_doesRing_31 gc10 rfl (by decide) rfl (by decide) fl_M_41 ?_
    refine g_iload_n dX10_doesRing_34 rfl ?_
    refine g_iald_n dX10_doesRing_35 (by first | rfl | assumption) (by first | decide | assumption) (by omega) (by omega) ?_
    try simp (disch := omega) only [y2, y3]
    first | refine g_iadd_n dX10_doesRing_36 ?_ | refine g_iadd dX10_doesRing_36 ?_
    refine g_aload_n dX10_doesRing_37 rfl ?_
    refine g_aload_n dX10_doesRing_38 rfl ?_
    refine g_getr (j := 15) dX10_doesRing_39 gc10 rfl (by decide) rfl (by decide) fl_M_41 ?_
    refine g_iload_n dX10_doesRing_42 rfl ?_
    refine g_iconst (nI 1) dX10_doesRing_43 ki_1 ?_
    first | refine g_iadd_n dX10_doesRing_44 ?_ | refine g_iadd dX10_doesRing_44 ?_
    refine g_iald_n dX10_doesRing_45 (by first | rfl | assumption) (by first | decide | assumption) (by omega) (by omega) ?_
    try simp (disch := omega) only [y2, y3]
    refine g_call1 dX10_doesRing_46 clM_holder ml_M_78 gc10 rfl rfl (by decide) (Nat.le_of_ble_eq_true rfl) ?_
    refine SM_holder hM' (by rw [e1]; exact hr3.1) ?_
    rw [hnD_at i (fun j hj => ring_ne hrow (by omega) (by omega))]
    refine g_iast_n dX10_doesRing_49 (by first | rfl | assumption) (by first | decide | assumption) (by omega) (by omega) ?_
    first | refine g_incn3_2 dX10_doesRing_50 ki_1 (by decide) rfl ?_ | refine g_incg3_2 (nI 1) dX10_doesRing_50 ki_1 (by decide) rfl ?_
    refine g_goto 13 dX10_doesRing_53 (by decide) ?_
    refine ih (by omega) _ (hE.tr (EqO.set (by decide))) ?_
    rw [mset_same, hnD]
    exact hM'.hol1 (by rw [e1]; exact hr2.1) (by omega)
theorem HM_hnR {S : BS} {b : RW} {m : Nat} (hH : HM S) (hr : ringOK S b m) : HM (hnR S b m) := by
  have hm2 := hr.1
  have hrow := hr.2.2.1
  have hoth : ∀ a, a ≠ 12 → hnR S b m a = S a := fun a ha => by
    funext x c
    rw [hnR, up_off (fun z => ha z.1), hnD_oth ha]
  have hD : ∀ i, i ≤ m - 1 → ∀ e, e < S 1 0 0 → hnD S b i 12 e 0 < 8 → mayB S (hnD S b i 12 e 0) e = true := by
    intro i
    induction i with
    | zero => exact fun _ e he h8 => hH e he h8
    | succ i ih =>
      intro hi e he h8
      rw [hnD] at h8 ⊢
      by_cases z : e = b i
      · subst z
        rw [up_at]
        have := (hrow (i + 1) (by omega)).2.2.2.1 (by omega)
        exact this.2
      · rw [up_off (fun y => z y.2.1)] at h8 ⊢
        exact ih (by omega) e he h8
  intro e he h8
  rw [hoth 1 (by decide)] at he
  rw [may_ho (S := S) hoth]
  rw [hnR] at h8 ⊢
  by_cases z : e = b (m - 1)
  · subst z
    rw [up_at]
    exact hr.2.2.2
  · rw [up_off (fun y => z y.2.1)] at h8 ⊢
    exact hD (m - 1) (Nat.le_refl _) e he h8
/-! turn in the class -/
noncomputable def nxS (S : BS) : BS := hnR S (bsR S).2 (bsR S).1
noncomputable def tuR (S : BS) : Nat → BS × Nat
  | 0 => (S, 0)
  | k + 1 => if (bsR (tuR S k).1).1 = 0 then tuR S k else (nxS (tuR S k).1, (tuR S k).2 + 1)
theorem tuR_stay {S : BS} {k : Nat} (h : (bsR (tuR S k).1).1 = 0) : ∀ t, tuR S (k + t) = tuR S k
  | 0 => rfl
  | t + 1 => by
    rw [← Nat.add_assoc, tuR, tuR_stay h t, if_pos h]
noncomputable def f_turn (x : Int32) (S : BS) : Int32 × BS := if 1 ≤ x.toInt ∧ x.toInt ≤ 24 then (nI (tuR S x.toInt.toNat).2, (tuR S x.toInt.toNat).1) else (-2, S)
theorem ring_of {S : BS} (h : BstP S (fun _ _ => True) (bsR S).1 (bsR S).2) (h0 : (bsR S).1 ≠ 0) : ringOK S (bsR S).2 (bsR S).1 := by
  rcases h with h | h
  · exact absurd h.1 h0
  · exact h.1
theorem SF_turn (x : Int32) (M : Mm) (S : BS) (Q : Po) (hB : BK M S) (hH : HM S) (h : ∀ M', FrC M M' → BK M' (f_turn x S).2 → Q M' (some (.int (f_turn x S).1))) : Call 60 mF_turn [.ref 0, .int x] M Q := by
  unfold f_turn at h
  have hbad : ¬ (1 ≤ x.toInt ∧ x.toInt ≤ 24) → Go mF_turn 60 Q 11 [some (.ref 0), some (.int x), none] [] M := by
    intro hx
    rw [if_neg hx] at h
    refine g_bipush ((-2)) dX9_turn_11 kb_m2 ?_
    refine g_ireturn dX9_turn_13 rfl (by first | rfl | exact nar_bI _) ?_
    exact h M FrC.rf hB
  refine Call_of (m := mF_turn) [some (.ref 0), some (.int x), none] rfl (fun G => Nat.le_of_ble_eq_true rfl) (fun G => rfl) ?_
  refine g_iload_n dX9_turn_0 rfl ?_
  refine g_iconst (nI 1) dX9_turn_1 ki_1 ?_
  refine g_icmp_lt 11 dX9_turn_2 (by decide) (fun c2 => ?_) (fun c2 => ?_)
  · have c2 := Int32.lt_iff_toInt_lt.mp c2
    rw [nI_toInt (by omega)] at c2
    exact hbad (by omega)
  · have c2 := Int32.le_iff_toInt_le.mp (by simpa using c2)
    rw [nI_toInt (by omega)] at c2
    refine g_iload_n dX9_turn_5 rfl ?_
    refine g_bipush (nI 24) dX9_turn_6 kb_24 ?_
    refine g_icmp_le 14 dX9_turn_8 (by decide) (fun c8 => ?_) (fun c8 => ?_)
    · have c8 := Int32.le_iff_toInt_le.mp c8
      rw [nI_toInt (by omega)] at c8
      rw [if_pos ⟨by omega, by omega⟩] at h
      obtain ⟨k, hk⟩ : ∃ k : Nat, x.toInt = (k : Int) := ⟨x.toInt.toNat, by omega⟩
      rw [show x.toInt.toNat = k by omega] at h
      obtain rfl : x = nI k := t_nI hk (by omega)
      refine g_iconst (nI 0) dX9_turn_14 ki_0 ?_
      refine g_ist3_2 dX9_turn_15 (by decide) rfl ?_
      refine loop_up (P := fun i => ∀ M', EqO [2, 35, 36, 37, 38, 39, 40] M M' → (tuR S i).2 = i → HM (tuR S i).1 → BK M' (tuR S i).1 → Go mF_turn 60 Q 16 [some (.ref 0), some (.int (nI k)), some (.int (nI i))] [] M') k ?_ 0 (Nat.zero_le _) M EqO.rf rfl hH hB
      intro i hi ih M' hE h2 hH' hB'
      refine g_iload_n dX9_turn_16 rfl ?_
      refine g_iload_n dX9_turn_17 rfl ?_
      refine g_icmp_ge_n 44 dX9_turn_18 (by decide) (by omega) (by omega) (fun c18 => ?_) (fun c18 => ?_)
      · refine g_iload_n dX9_turn_44 rfl ?_
        refine g_ireturn dX9_turn_45 rfl (by first | rfl | exact nar_bI _) ?_
        obtain rfl : i = k := by omega
        rw [h2] at h
        exact h M' (FrC.of hE (by decide)) hB'
      · refine g_aload_n dX9_turn_21 rfl ?_
        refine g_getr (j := 5) dX9_turn_22 gc9 rfl (by decide) rfl (by decide) fl_F_45 ?_
        refine g_call0 dX9_turn_25 clG_findBest ml_F_231 gc5 rfl rfl (by decide) (Nat.le_of_ble_eq_true rfl) ?_
        refine SG_findBest hB' hH' (fun M1 m b g hE1 hM1 => ?_)
        obtain ⟨o1, o2, o3, o4, o5, o6⟩ := hM1.out
        have hB1 : BK M1 (tuR S i).1 := hB'.eqO hE1 (by decide)
        have hE2 : EqO [2, 35, 36, 37, 38, 39, 40] M M1 := hE.tr (hE1.sub (by decide))
        by_cases h0 : (bsR (tuR S i).1).1 = 0
        · rw [show decide (0 < m) = false from decide_eq_false (by omega)]
          have e := tuR_stay h0 (k - i)
          rw [show i + (k - i) = k by omega] at e
          rw [e, h2] at h
          refine g_if_eq_ff 44 dX9_turn_28 (by decide) ?_
          refine g_iload_n dX9_turn_44 rfl ?_
          refine g_ireturn dX9_turn_45 rfl (by first | rfl | exact nar_bI _) ?_
          exact h M1 (FrC.of hE2 (by decide)) hB1
        · rw [show decide (0 < m) = true from decide_eq_true (by omega)]
          have hr := ring_of o6 h0
          refine g_if_eq_tt 44 dX9_turn_28 (by decide) ?_
          refine g_aload_n dX9_turn_31 rfl ?_
          refine g_getr (j := 5) dX9_turn_32 gc9 rfl (by decide) rfl (by decide) fl_F_45 ?_
          refine g_call0 dX9_turn_35 clG_handOn ml_F_241 gc5 rfl rfl (by decide) (Nat.le_of_ble_eq_true rfl) ?_
          refine SG_handOn hB1 hr o2 (fun j hj => (o5 j hj).1) (fun M2 hE3 hB2 => ?_)
          have e : tuR S (i + 1) = (nxS (tuR S i).1, (tuR S i).2 + 1) := by rw [tuR, if_neg h0]
          first | refine g_incn3_2 dX9_turn_38 ki_1 (by decide) rfl ?_ | refine g_incg3_2 (nI 1) dX9_turn_38 ki_1 (by decide) rfl ?_
          refine g_goto 16 dX9_turn_41 (by decide) ?_
          refine ih (by omega) M2 (hE2.tr (hE3.sub (by decide))) (by rw [e, h2]) (by rw [e]; exact HM_hnR hH' hr) (by rw [e]; exact hB2)
    · have c8 := Int32.lt_iff_toInt_lt.mp (Int32.not_le.mp c8)
      rw [nI_toInt (by omega)] at c8
      exact hbad (by omega)
/-! turn in the reference, both -/
theorem inJ_T (x : Int32) : inJ x.toInt64 1 24 = decide (1 ≤ x.toInt ∧ x.toInt ≤ 24) := by
  unfold inJ
  rw [Int32.toInt_toInt64]
  rfl
theorem FrM.ofH {M M' : Mm} (h : EqH M M') : FrM M M' := fun k j hk => by
  unfold okO at hk
  exact h k j (by omega) (by omega) (by omega)
theorem SM_turn (x : Int32) (M : Mm) (S : BS) (Q : Po) (hM : MK (M 58) S) (hC : MC M) (hH : HM S) (h : ∀ M', FrM M M' → MK (M' 58) (f_turn x S).2 → Q M' (some (.int (f_turn x S).1))) : Call 60 mM_turn [.ref 57, .int x] M Q := by
  unfold f_turn at h
  refine Call_of (m := mM_turn) [some (.ref 57), some (.int x), none] rfl (fun G => Nat.le_of_ble_eq_true rfl) (fun G => rfl) ?_
  refine g_iload_n dX10_turn_0 rfl ?_
  refine g_i2l dX10_turn_1 ?_
  refine g_lconst (1) dX10_turn_2 (by decide) ?_
  refine g_ldc2w (24) dX10_turn_3 kl_M_223 ?_
  refine g_calls3 dX10_turn_6 clM_in ml_M_68 (Nat.le_of_ble_eq_true rfl) ?_
  refine SM_in _ _ _ ?_
  rw [inJ_T]
  by_cases hx : 1 ≤ x.toInt ∧ x.toInt ≤ 24
  · rw [decide_eq_true hx]
    rw [if_pos hx] at h
    obtain ⟨k, hk⟩ : ∃ k : Nat, x.toInt = (k : Int) := ⟨x.toInt.toNat, by omega⟩
    rw [show x.toInt.toNat = k by omega] at h
    obtain rfl : x = nI k := t_nI hk (by omega)
    refine g_if_ne_tt 15 dX10_turn_9 (by decide) ?_
    refine g_iconst (nI 0) dX10_turn_15 ki_0 ?_
    refine g_ist3_2 dX10_turn_16 (by decide) rfl ?_
    refine g_aload_n dX10_turn_17 rfl ?_
    refine g_call0 dX10_turn_18 clM_findsRing ml_M_220 gc10 rfl rfl (by decide) (Nat.le_of_ble_eq_true rfl) ?_
    refine SM_findsRing hM hH (fun M1 m b g hE1 hB1 => ?_)
    obtain ⟨_, o2, _, o4, o5, o6⟩ := hB1.out
    refine loop_up (P := fun i => ∀ M', FrM M M' → (tuR S i).2 = i → HM (tuR S i).1 → MK (M' 58) (tuR S i).1 → M' 57 16 = nI (bsR (tuR S i).1).1 → (bsR (tuR S i).1).1 ≤ 4 → (∀ j, j < (bsR (tuR S i).1).1 → M' 68 j = nI ((bsR (tuR S i).1).2 j)) → BstP (tuR S i).1 (fun _ _ => True) (bsR (tuR S i).1).1 (bsR (tuR S i).1).2 → Go mM_turn 60 Q 21 [some (.ref 57), some (.int (nI k)), some (.int (nI i))] [] M') k ?_ 0 (Nat.zero_le _) M1 (FrM.ofH hE1) rfl hH (by rw [hE1.r58]; exact hM) o2 o4 (fun j hj => (o5 j hj).1) o6
    intro i hi ih M' hE h2 hH' hM' p2 p4 p5 p6
    refine g_iload_n dX10_turn_21 rfl ?_
    refine g_iload_n dX10_turn_22 rfl ?_
    refine g_icmp_ge_n 47 dX10_turn_23 (by decide) (by omega) (by omega) (fun c23 => ?_) (fun c23 => ?_)
    · refine g_iload_n dX10_turn_47 rfl ?_
      refine g_ireturn dX10_turn_48 rfl (by first | rfl | exact nar_bI _) ?_
      obtain rfl : i = k := by omega
      rw [h2] at h
      exact h M' hE hM'
    · skip
      refine g_aload_n dX10_turn_26 rfl ?_
      refine g_geti (j := 16) dX10_turn_27 gc10 rfl (by decide) rfl (by decide) fl_M_206 ?_
      try simp (disch := omega) only [p2]
      refine g_if_le_n 47 dX10_turn_30 (by decide) (by omega) (fun c30 => ?_) (fun c30 => ?_)
      · refine g_iload_n dX10_turn_47 rfl ?_
        refine g_ireturn dX10_turn_48 rfl (by first | rfl | exact nar_bI _) ?_
        have h0 : (bsR (tuR S i).1).1 = 0 := by omega
        have e := tuR_stay h0 (k - i)
        rw [show i + (k - i) = k by omega] at e
        rw [e, h2] at h
        exact h M' hE hM'
      · have h0 : (bsR (tuR S i).1).1 ≠ 0 := by omega
        have hr := ring_of p6 h0
        have e : tuR S (i + 1) = (nxS (tuR S i).1, (tuR S i).2 + 1) := by rw [tuR, if_neg h0]
        refine g_aload_n dX10_turn_33 rfl ?_
        refine g_call0 dX10_turn_34 clM_doesRing ml_M_225 gc10 rfl rfl (by decide) (Nat.le_of_ble_eq_true rfl) ?_
        refine SM_doesRing hM' hr p2 p5 (fun M2 hE2 hM2 => ?_)
        first | refine g_incn3_2 dX10_turn_37 ki_1 (by decide) rfl ?_ | refine g_incg3_2 (nI 1) dX10_turn_37 ki_1 (by decide) rfl ?_
        refine g_aload_n dX10_turn_40 rfl ?_
        refine g_call0 dX10_turn_41 clM_findsRing ml_M_220 gc10 rfl rfl (by decide) (Nat.le_of_ble_eq_true rfl) ?_
        refine SM_findsRing hM2 (HM_hnR hH' hr) (fun M3 m b g hE3 hB3 => ?_)
        obtain ⟨_, o2, _, o4, o5, o6⟩ := hB3.out
        refine g_goto 21 dX10_turn_44 (by decide) ?_
        refine ih (by omega) M3 (hE.tr ((FrM.of hE2 (by decide)).tr (FrM.ofH hE3))) (by rw [e, h2]) (by rw [e]; exact HM_hnR hH' hr) (by rw [e, hE3.r58]; exact hM2) (by rw [e]; exact o2) (by rw [e]; exact o4) (by rw [e]; exact fun j hj => (o5 j hj).1) (by rw [e]; exact o6)
  · rw [decide_eq_false hx]
    rw [if_neg hx] at h
    refine g_if_ne_ff 15 dX10_turn_9 (by decide) ?_
    refine g_bipush ((-2)) dX10_turn_12 kb_m2 ?_
    refine g_ireturn dX10_turn_14 rfl (by first | rfl | exact nar_bI _) ?_
    exact h M FrM.rf hM
/-! turn on both sides -/
theorem bsR_of {S : BS} (h0 : (bsR S).1 ≠ 0) : BstP S (fun _ _ => True) (bsR S).1 (bsR S).2 := by
  by_cases hx : ∃ x : Nat × RW, BstP S (fun _ _ => True) x.1 x.2
  · obtain ⟨x, hx⟩ := hx
    exact bsR_is hx
  · exfalso
    apply h0
    unfold bsR
    rw [dif_neg hx]
theorem tuR_HM {S : BS} (hH : HM S) : ∀ k, HM (tuR S k).1
  | 0 => hH
  | k + 1 => by
    rw [tuR]
    by_cases h0 : (bsR (tuR S k).1).1 = 0
    · rw [if_pos h0]; exact tuR_HM hH k
    · rw [if_neg h0]
      exact HM_hnR (tuR_HM hH k) (ring_of (bsR_of h0) h0)
theorem both_turn (x : Int32) : Both mF_turn mM_turn [.int x] := both_book (f_turn x) (fun M S Q => SF_turn x M S Q) (fun M S Q => SM_turn x M S Q) (fun S hW hH => by
  unfold f_turn
  split
  · exact tuR_HM hH _
  · exact hH)
/-! ring in the class: what it does; its answer is not compared -/
theorem SG_gain {d : Nat} {M : Mm} {Q : Po} {v : Int32} (e : M 35 9 = v) (h : Q M (some (.int v))) : Call (d + 1) mG_gain [.ref 35] M Q := by
  refine Call_of (m := mG_gain) [some (.ref 35)] rfl (fun G => Nat.le_of_ble_eq_true rfl) (fun G => rfl) ?_
  refine g_aload_n dX5_gain_0 rfl ?_
  refine g_geti (j := 9) dX5_gain_1 gc5 rfl (by decide) rfl (by decide) fl_G_41 ?_
  refine g_ireturn dX5_gain_4 rfl (by first | rfl | exact nar_bI _) ?_
  rw [e]
  exact h
theorem SG_size {d : Nat} {M : Mm} {Q : Po} {v : Int32} (e : M 35 8 = v) (h : Q M (some (.int v))) : Call (d + 1) mG_size [.ref 35] M Q := by
  refine Call_of (m := mG_size) [some (.ref 35)] rfl (fun G => Nat.le_of_ble_eq_true rfl) (fun G => rfl) ?_
  refine g_aload_n dX5_size_0 rfl ?_
  refine g_geti (j := 8) dX5_size_1 gc5 rfl (by decide) rfl (by decide) fl_G_38 ?_
  refine g_ireturn dX5_size_4 rfl (by first | rfl | exact nar_bI _) ?_
  rw [e]
  exact h
theorem SG_dutyAtX {d : Nat} {M : Mm} {Q : Po} {n : Nat} {z : Int32} (e : M 35 8 = nI n) (hn : n ≤ 4) (h : ∀ y : Int32, Q M (some (.int y))) : Call (d + 1) mG_dutyAt [.ref 35, .int z] M Q := by
  refine Call_of (m := mG_dutyAt) [some (.ref 35), some (.int z)] rfl (fun G => Nat.le_of_ble_eq_true rfl) (fun G => rfl) ?_
  refine g_iload_n dX5_dutyAt_0 rfl ?_
  refine g_if_lt 26 dX5_dutyAt_1 (by decide) (fun c1 => ?_) (fun c1 => ?_)
  · refine g_iconst ((-1)) dX5_dutyAt_26 ki_m1 ?_
    refine g_ireturn dX5_dutyAt_27 rfl (by first | rfl | exact nar_bI _) ?_
    exact h _
  · refine g_iload_n dX5_dutyAt_4 rfl ?_
    refine g_aload_n dX5_dutyAt_5 rfl ?_
    refine g_geti (j := 8) dX5_dutyAt_6 gc5 rfl (by decide) rfl (by decide) fl_G_38 ?_
    try simp (disch := omega) only [e]
    refine g_icmp_ge 26 dX5_dutyAt_9 (by decide) (fun c9 => ?_) (fun c9 => ?_)
    · refine g_iconst ((-1)) dX5_dutyAt_26 ki_m1 ?_
      refine g_ireturn dX5_dutyAt_27 rfl (by first | rfl | exact nar_bI _) ?_
      exact h _
    · obtain ⟨u, hu, rfl⟩ := inR_true (inR_t1 (by omega) c1 c9)
      refine g_iload_n dX5_dutyAt_12 rfl ?_
      refine g_iconst (nI 4) dX5_dutyAt_13 ki_4 ?_
      refine g_icmp_ge_n 26 dX5_dutyAt_14 (by decide) (by omega) (by omega) (fun c14 => ?_) (fun c14 => ?_)
      · exact absurd hu (by omega)
      · refine g_aload_n dX5_dutyAt_17 rfl ?_
        refine g_getr (j := 5) dX5_dutyAt_18 gc5 rfl (by decide) rfl (by decide) fl_G_24 ?_
        refine g_iload_n dX5_dutyAt_21 rfl ?_
        refine g_iald_n dX5_dutyAt_22 (by first | rfl | assumption) (by first | decide | assumption) (by omega) (by omega) ?_
        try simp (disch := omega) only [e]
        refine g_goto 27 dX5_dutyAt_23 (by decide) ?_
        refine g_ireturn dX5_dutyAt_27 rfl (by first | rfl | exact nar_bI _) ?_
        exact h _
theorem SF_ring (x : Int32) (M : Mm) (S : BS) (Q : Po) (hB : BK M S) (hH : HM S) (h : ∀ (M' : Mm) (y : Int32), FrC M M' → BK M' S → Q M' (some (.int y))) : Call 60 mF_ring [.ref 0, .int x] M Q := by
  refine Call_of (m := mF_ring) [some (.ref 0), some (.int x)] rfl (fun G => Nat.le_of_ble_eq_true rfl) (fun G => rfl) ?_
  refine g_aload_n dX9_ring_0 rfl ?_
  refine g_getr (j := 5) dX9_ring_1 gc9 rfl (by decide) rfl (by decide) fl_F_45 ?_
  refine g_call0 dX9_ring_4 clG_findBest ml_F_231 gc5 rfl rfl (by decide) (Nat.le_of_ble_eq_true rfl) ?_
  refine SG_findBest hB hH (fun M1 m b g hE1 hM1 => ?_)
  obtain ⟨o1, o2, o3, o4, o5, o6⟩ := hM1.out
  have hB1 : BK M1 S := hB.eqO hE1 (by decide)
  have hf : ∀ y : Int32, Q M1 (some (.int y)) := fun y => h M1 y (FrC.of hE1 (by decide)) hB1
  by_cases h0 : (bsR S).1 = 0
  · rw [show decide (0 < m) = false from decide_eq_false (by omega)]
    refine g_if_ne_ff 13 dX9_ring_7 (by decide) ?_
    refine g_bipush ((-5)) dX9_ring_10 kb_m5 ?_
    refine g_ireturn dX9_ring_12 rfl (by first | rfl | exact nar_bI _) ?_
    exact hf _
  · rw [show decide (0 < m) = true from decide_eq_true (by omega)]
    refine g_if_ne_tt 13 dX9_ring_7 (by decide) ?_
    refine g_iload_n dX9_ring_13 rfl ?_
    refine g_if_ne 25 dX9_ring_14 (by decide) (fun c14 => ?_) (fun c14 => ?_)
    · refine g_iload_n dX9_ring_25 rfl ?_
      refine g_iconst (nI 1) dX9_ring_26 ki_1 ?_
      refine g_icmp_ne 40 dX9_ring_27 (by decide) (fun c27 => ?_) (fun c27 => ?_)
      · refine g_aload_n dX9_ring_40 rfl ?_
        refine g_getr (j := 5) dX9_ring_41 gc9 rfl (by decide) rfl (by decide) fl_F_45 ?_
        refine g_iload_n dX9_ring_44 rfl ?_
        refine g_bipush (nI 10) dX9_ring_45 kb_10 ?_
        refine g_isub dX9_ring_47 ?_
        refine g_call1 dX9_ring_48 clG_dutyAt ml_F_240 gc5 rfl rfl (by decide) (Nat.le_of_ble_eq_true rfl) ?_
        refine SG_dutyAtX o2 o4 (fun y => ?_)
        refine g_ireturn dX9_ring_51 rfl (by first | rfl | exact nar_bI _) ?_
        exact hf _
      · refine g_aload_n dX9_ring_30 rfl ?_
        refine g_getr (j := 5) dX9_ring_31 gc9 rfl (by decide) rfl (by decide) fl_F_45 ?_
        refine g_call0 dX9_ring_34 clG_size ml_F_237 gc5 rfl rfl (by decide) (Nat.le_of_ble_eq_true rfl) ?_
        refine SG_size o2 ?_
        refine g_goto 51 dX9_ring_37 (by decide) ?_
        refine g_ireturn dX9_ring_51 rfl (by first | rfl | exact nar_bI _) ?_
        exact hf _
    · refine g_aload_n dX9_ring_17 rfl ?_
      refine g_getr (j := 5) dX9_ring_18 gc9 rfl (by decide) rfl (by decide) fl_F_45 ?_
      refine g_call0 dX9_ring_21 clG_gain ml_F_234 gc5 rfl rfl (by decide) (Nat.le_of_ble_eq_true rfl) ?_
      refine SG_gain o3 ?_
      refine g_ireturn dX9_ring_24 rfl (by first | rfl | exact nar_bI _) ?_
      exact hf _
/-! ring in the reference, both -/
theorem inJ_R01 (x : Int32) : inJ x.toInt64 0 1 = decide (0 ≤ x.toInt ∧ x.toInt ≤ 1) := by
  unfold inJ
  rw [Int32.toInt_toInt64]
  rfl
theorem inJ_R10 (x : Int32) : inJ x.toInt64 10 13 = decide (10 ≤ x.toInt ∧ x.toInt ≤ 13) := by
  unfold inJ
  rw [Int32.toInt_toInt64]
  rfl
theorem SM_ring (x : Int32) (M : Mm) (S : BS) (Q : Po) (hM : MK (M 58) S) (hC : MC M) (hH : HM S) (h : ∀ (M' : Mm) (y : Int32), FrM M M' → MK (M' 58) S → Q M' (some (.int y))) : Call 60 mM_ring [.ref 57, .int x] M Q := by
  by_cases hx : (0 ≤ x.toInt ∧ x.toInt ≤ 1) ∨ (10 ≤ x.toInt ∧ x.toInt ≤ 13)
  · obtain ⟨u, hu⟩ : ∃ u : Nat, x.toInt = (u : Int) := ⟨x.toInt.toNat, by omega⟩
    obtain rfl : x = nI u := t_nI hu (by omega)
    have hgo : Go mM_ring 60 Q 26 [some (.ref 57), some (.int (nI u))] [] M := by
      rw [hu] at hx
      refine g_aload_n dX10_ring_26 rfl ?_
      refine g_call0 dX10_ring_27 clM_findsRing ml_M_220 gc10 rfl rfl (by decide) (Nat.le_of_ble_eq_true rfl) ?_
      refine SM_findsRing hM hH (fun M1 m b g hE1 hB1 => ?_)
      obtain ⟨o1, o2, o3, o4, o5, o6⟩ := hB1.out
      have hM1 : MK (M1 58) S := by rw [hE1.r58]; exact hM
      have hf : ∀ y : Int32, Q M1 (some (.int y)) := fun y => h M1 y (FrM.ofH hE1) hM1
      refine g_aload_n dX10_ring_30 rfl ?_
      refine g_geti (j := 16) dX10_ring_31 gc10 rfl (by decide) rfl (by decide) fl_M_206 ?_
      try simp (disch := omega) only [o2, o3]
      refine g_if_ne_n 40 dX10_ring_34 (by decide) (by omega) (fun c34 => ?_) (fun c34 => ?_)
      · refine g_iload_n dX10_ring_40 rfl ?_
        refine g_if_ne_n 51 dX10_ring_41 (by decide) (by omega) (fun c41 => ?_) (fun c41 => ?_)
        · refine g_iload_n dX10_ring_51 rfl ?_
          refine g_iconst (nI 1) dX10_ring_52 ki_1 ?_
          refine g_icmp_ne_n 63 dX10_ring_53 (by decide) (by omega) (by omega) (fun c53 => ?_) (fun c53 => ?_)
          · refine g_iload_n dX10_ring_63 rfl ?_
            refine g_bipush (nI 10) dX10_ring_64 kb_10 ?_
            first | refine g_isub_n dX10_ring_66 (by omega) ?_ | refine g_isub dX10_ring_66 ?_
            refine g_aload_n dX10_ring_67 rfl ?_
            refine g_geti (j := 16) dX10_ring_68 gc10 rfl (by decide) rfl (by decide) fl_M_206 ?_
            try simp (disch := omega) only [o2, o3]
            refine g_icmp_ge_n 86 dX10_ring_71 (by decide) (by omega) (by omega) (fun c71 => ?_) (fun c71 => ?_)
            · refine g_iconst ((-1)) dX10_ring_86 ki_m1 ?_
              refine g_ireturn dX10_ring_87 rfl (by first | rfl | exact nar_bI _) ?_
              exact hf _
            · have e5 := (o5 (u - 10) (by omega)).1
              refine g_aload_n dX10_ring_74 rfl ?_
              refine g_getr (j := 15) dX10_ring_75 gc10 rfl (by decide) rfl (by decide) fl_M_41 ?_
              refine g_iload_n dX10_ring_78 rfl ?_
              refine g_bipush (nI 10) dX10_ring_79 kb_10 ?_
              first | refine g_isub_n dX10_ring_81 (by omega) ?_ | refine g_isub dX10_ring_81 ?_
              refine g_iald_n dX10_ring_82 (by first | rfl | assumption) (by first | decide | assumption) (by omega) (by omega) ?_
              try simp (disch := omega) only [e5]
              refine g_goto 87 dX10_ring_83 (by decide) ?_
              refine g_ireturn dX10_ring_87 rfl (by first | rfl | exact nar_bI _) ?_
              exact hf _
          · refine g_aload_n dX10_ring_56 rfl ?_
            refine g_geti (j := 16) dX10_ring_57 gc10 rfl (by decide) rfl (by decide) fl_M_206 ?_
            try simp (disch := omega) only [e5]
            refine g_goto 87 dX10_ring_60 (by decide) ?_
            refine g_ireturn dX10_ring_87 rfl (by first | rfl | exact nar_bI _) ?_
            exact hf _
        · refine g_aload_n dX10_ring_44 rfl ?_
          refine g_geti (j := 17) dX10_ring_45 gc10 rfl (by decide) rfl (by decide) fl_M_203 ?_
          try simp (disch := omega) only [e5]
          refine g_goto 87 dX10_ring_48 (by decide) ?_
          refine g_ireturn dX10_ring_87 rfl (by first | rfl | exact nar_bI _) ?_
          exact hf _
      · refine g_bipush ((-5)) dX10_ring_37 kb_m5 ?_
        refine g_ireturn dX10_ring_39 rfl (by first | rfl | exact nar_bI _) ?_
        exact hf _
    refine Call_of (m := mM_ring) [some (.ref 57), some (.int (nI u))] rfl (fun G => Nat.le_of_ble_eq_true rfl) (fun G => rfl) ?_
    refine g_iload_n dX10_ring_0 rfl ?_
    refine g_i2l dX10_ring_1 ?_
    refine g_lconst (0) dX10_ring_2 (by decide) ?_
    refine g_lconst (1) dX10_ring_3 (by decide) ?_
    refine g_calls3 dX10_ring_4 clM_in ml_M_68 (Nat.le_of_ble_eq_true rfl) ?_
    refine SM_in _ _ _ ?_
    rw [inJ_R01]
    by_cases h1 : 0 ≤ (nI u).toInt ∧ (nI u).toInt ≤ 1
    · rw [decide_eq_true h1]
      refine g_if_ne_tt 26 dX10_ring_7 (by decide) ?_
      exact hgo
    · rw [decide_eq_false h1]
      refine g_if_ne_ff 26 dX10_ring_7 (by decide) ?_
      refine g_iload_n dX10_ring_10 rfl ?_
      refine g_i2l dX10_ring_11 ?_
      refine g_ldc2w (10) dX10_ring_12 kl_M_128 ?_
      refine g_ldc2w (13) dX10_ring_15 kl_M_218 ?_
      refine g_calls3 dX10_ring_18 clM_in ml_M_68 (Nat.le_of_ble_eq_true rfl) ?_
      refine SM_in _ _ _ ?_
      rw [inJ_R10, decide_eq_true (by omega)]
      refine g_if_ne_tt 26 dX10_ring_21 (by decide) ?_
      exact hgo
  · skip
    refine Call_of (m := mM_ring) [some (.ref 57), some (.int x)] rfl (fun G => Nat.le_of_ble_eq_true rfl) (fun G => rfl) ?_
    refine g_iload_n dX10_ring_0 rfl ?_
    refine g_i2l dX10_ring_1 ?_
    refine g_lconst (0) dX10_ring_2 (by decide) ?_
    refine g_lconst (1) dX10_ring_3 (by decide) ?_
    refine g_calls3 dX10_ring_4 clM_in ml_M_68 (Nat.le_of_ble_eq_true rfl) ?_
    refine SM_in _ _ _ ?_
    rw [inJ_R01, decide_eq_false (by omega)]
    refine g_if_ne_ff 26 dX10_ring_7 (by decide) ?_
    refine g_iload_n dX10_ring_10 rfl ?_
    refine g_i2l dX10_ring_11 ?_
    refine g_ldc2w (10) dX10_ring_12 kl_M_128 ?_
    refine g_ldc2w (13) dX10_ring_15 kl_M_218 ?_
    refine g_calls3 dX10_ring_18 clM_in ml_M_68 (Nat.le_of_ble_eq_true rfl) ?_
    refine SM_in _ _ _ ?_
    rw [inJ_R10, decide_eq_false (by omega)]
    refine g_if_ne_ff 26 dX10_ring_21 (by decide) ?_
    refine g_iconst ((-1)) dX10_ring_24 ki_m1 ?_
    refine g_ireturn dX10_ring_25 rfl (by first | rfl | exact nar_bI _) ?_
    exact h M _ FrM.rf hM
/-! ring on both sides: the answers are not compared -/
theorem both_ring (x : Int32) : BothW mF_ring mM_ring [.int x] := by
  intro M ⟨S, b, S', n, t, pn, pf, h1, h2, h3, h4⟩
  refine SF_ring x M S _ h2 h1 (fun M1 y1 hf1 hB1 => ?_)
  have h4' := h4.keep (fun k j hk => hf1 k j (Or.inl hk))
  refine ⟨IsI.rf, ?_⟩
  refine SM_ring x M1 S _ (MK.frC h3 hf1) h4'.2.2.2.2.2.2.2.2 h1 (fun M2 y2 hf2 hM2 => ?_)
  exact ⟨IsI.rf, S, b, S', n, t, pn, pf, h1, hB1.frM hf2, hM2, h4'.keep (fun k j hk => hf2 k j (Or.inl hk))⟩
/-! MAKING: constructors' bodies, over worlds that grow -/
theorem tq124 : (Cond.code Lib.objectInit ⟨#[0xb1]⟩ 1 none : Cond) ∈ TB := tb_of 125 (by decide +kernel) rfl
theorem tq190 : (Cond.arrayClass .int : Cond) ∈ TB := tb_of 191 (by decide +kernel) rfl
theorem tq191 : (Cond.arrayClass .boolean : Cond) ∈ TB := tb_of 192 (by decide +kernel) rfl
theorem gGood2 {y : Me} (hy : gCal y) : GoodIn TB (wsM y) := by
  intro w hw
  rcases List.mem_cons.mp hw with e | e
  · subst e
    exact ⟨hy.1, good_of_word (TB_good _ hy.1)⟩
  · exact ⟨e, good_of_word (TB_good _ e)⟩
/-- the frame of a body that makes -/
def zF (m : Me) (p : Program) (s : State) (mi : MethodId) (args : Array Value) (meth : Method) (c : Code) : Prop :=
  p.tables.exec = Jvm.exec ∧ c.code = m.2.1 ∧ meth.sig.returnType = m.2.2.2 ∧ c.maxLocals = m.2.2.1 ∧ s.vm.findClass m.1.cls = some mi.cls ∧ (∀ w ∈ TB, w.before args s = true) ∧ meth.locks = false
abbrev zT (cI cZ : ClassId) : List (ClassId × FieldType) := [(cI, .int), (cZ, .boolean)]
def zC (m : Me) (D : va_G) (cI cZ : ClassId) (A : Nat → Prop) (p : Program) (s : State) (mi : MethodId) (args : Array Value) (meth : Method) (c : Code) : Prop := zF m p s mi args meth c ∧ va_K D vwCl (zT cI cZ) s ∧ ∀ q, s.heap.size ≤ q → A q
def Mz (m : Me) (R : Room) (D : va_G) (A : Nat → Prop) (p : Program) (l : Launch) (e : Env) (s : State) (mi : MethodId) (args : Array Value) (below : List Frame) (meth : Method) (c : Code) (Q : State → Prop) (pc : Nat) (ls : List (Nat × Value)) (st : List Value) (ws : va_W) (n k : Nat) : Prop :=
  ∀ (H : Heap) (locs : List Loc) (arr : Array Slot), va_P D vwCl ws H → va_D A ws → va_S A s.heap H locs → lv_has arr m.2.2.1 ls → W p l e R s mi args below meth c H locs n k Q (F0 mi pc arr st)
def zWB (D : va_G) (cI cZ : ClassId) (A : Nat → Prop) (w : va_W) (t : State) : Prop := va_P D vwCl w t.heap ∧ va_K D vwCl (zT cI cZ) t ∧ va_D A w
def Makes (cI cZ : ClassId) (m : Me) (rm : Room) (X : State → Prop) (av : List Value) (w0 : va_W) (post : va_W → Prop) (mc ms : Nat) : Prop := ∀ (l : Launch) (D : va_G) (sz : Nat),
  Met l m.1 (wsM m) rm (va_Pc av (fun U => U.heap.size = sz ∧ va_P D vwCl w0 U.heap ∧ va_K D vwCl (zT cI cZ) U ∧ va_D (fun _ => True) w0 ∧ X U)) (va_Qv post (zWB D cI cZ (va_A w0 sz)) (va_A w0 sz)) mc ms (va_A w0 sz)
theorem k_uniq {D : va_G} {cl : List vw_C} {tys : List (ClassId × FieldType)} {U : State} (hK : va_K D cl tys U) {i j : Nat} {a b : ClassId} {ty : FieldType} (hty : ty = .int ∨ ty = .boolean) (hi : tys[i]? = some (a, ty)) (hj : tys[j]? = some (b, ty)) : a = b := by
  have h1 := (hK.2 i _ hi).2
  have h2 := (hK.2 j _ hj).2
  rcases hty with rfl | rfl
  · exact Option.some.inj (h1.symm.trans h2)
  · exact Option.some.inj (h1.symm.trans h2)
section MKZ
variable {m : Me} {R : Room} {D : va_G} {cI cZ : ClassId} {A : Nat → Prop} {p : Program} {l : Launch} {e : Env} {s : State} {mi : MethodId} {args : Array Value} {below : List Frame} {meth : Method} {c : Code} {Q : State → Prop} {pc : Nat} {ls : List (Nat × Value)} {st : List Value} {ws : va_W} {n k : Nat}
theorem Mz.eqw {w2 : va_W} (h : ws = w2) (kk : Mz m R D A p l e s mi args below meth c Q pc ls st w2 n k) : Mz m R D A p l e s mi args below meth c Q pc ls st ws n k := h ▸ kk
theorem mz_aload (C : zC m D cI cZ A p s mi args meth c) {i : Fin 4} {x : Nat} (j : Nat) (hd : decode m.2.1 pc = .ok (.aload_n i, 1)) (h : ls[j]? = some (i.val, .ref x)) (kk : Mz m R D A p l e s mi args below meth c Q (pc + 1) ls (.ref x :: st) ws n k) : Mz m R D A p l e s mi args below meth c Q pc ls st ws n k :=
  fun H locs arr hP hD hS hl => lv_aload_n C.1.1 C.1.2.1 hd rfl (lv_at hl j h) (kk H locs arr hP hD hS hl)
theorem mz_iload (C : zC m D cI cZ A p s mi args meth c) {i : Fin 4} {x : Int32} (j : Nat) (hd : decode m.2.1 pc = .ok (.iload_n i, 1)) (h : ls[j]? = some (i.val, .int x)) (kk : Mz m R D A p l e s mi args below meth c Q (pc + 1) ls (.int x :: st) ws n k) : Mz m R D A p l e s mi args below meth c Q pc ls st ws n k :=
  fun H locs arr hP hD hS hl => lv_iload_n C.1.1 C.1.2.1 hd rfl (lv_at hl j h) (kk H locs arr hP hD hS hl)
theorem mz_iconst (C : zC m D cI cZ A p s mi args meth c) (v : Int32) {z : Int} (hd : decode m.2.1 pc = .ok (.iconst z, 1)) (h : Int32.ofInt z = v) (kk : Mz m R D A p l e s mi args below meth c Q (pc + 1) ls (.int v :: st) ws n k) : Mz m R D A p l e s mi args below meth c Q pc ls st ws n k :=
  fun H locs arr hP hD hS hl => lv_iconst C.1.1 C.1.2.1 hd h (kk H locs arr hP hD hS hl)
theorem mz_bipush (C : zC m D cI cZ A p s mi args meth c) (v : Int32) {z : Int} (hd : decode m.2.1 pc = .ok (.bipush z, 2)) (h : (Int8.ofInt z).toInt32 = v) (kk : Mz m R D A p l e s mi args below meth c Q (pc + 2) ls (.int v :: st) ws n k) : Mz m R D A p l e s mi args below meth c Q pc ls st ws n k :=
  fun H locs arr hP hD hS hl => lv_bipush C.1.1 C.1.2.1 hd h (kk H locs arr hP hD hS hl)
theorem mz_sipush (C : zC m D cI cZ A p s mi args meth c) (v : Int32) {z : Int} (hd : decode m.2.1 pc = .ok (.sipush z, 3)) (h : (Int16.ofInt z).toInt32 = v) (kk : Mz m R D A p l e s mi args below meth c Q (pc + 3) ls (.int v :: st) ws n k) : Mz m R D A p l e s mi args below meth c Q pc ls st ws n k :=
  fun H locs arr hP hD hS hl => lv_sipush C.1.1 C.1.2.1 hd h (kk H locs arr hP hD hS hl)
theorem mz_dup (C : zC m D cI cZ A p s mi args meth c) {x : Nat} (hd : decode m.2.1 pc = .ok (.dup, 1)) (kk : Mz m R D A p l e s mi args below meth c Q (pc + 1) ls (.ref x :: .ref x :: st) ws n k) : Mz m R D A p l e s mi args below meth c Q pc ls (.ref x :: st) ws n k :=
  fun H locs arr hP hD hS hl => lv_dup C.1.1 C.1.2.1 hd rfl (kk H locs arr hP hD hS hl)
theorem mz_goto (C : zC m D cI cZ A p s mi args meth c) {off : Int} (tgt : Nat) (hd : decode m.2.1 pc = .ok (.goto off, 3)) (ht : (pc : Int) + off = (tgt : Int)) (kk : Mz m R D A p l e s mi args below meth c Q tgt ls st ws n k) : Mz m R D A p l e s mi args below meth c Q pc ls st ws n k :=
  fun H locs arr hP hD hS hl => lv_goto (tgt := tgt) C.1.1 C.1.2.1 hd ht (kk H locs arr hP hD hS hl)
theorem mz_astore (C : zC m D cI cZ A p s mi args meth c) {i : Fin 4} {x : Nat} {lt : List (Nat × Value)} (hd : decode m.2.1 pc = .ok (.astore_n i, 1)) (hn : i.val < m.2.2.1) (hl2 : (i.val, Value.ref x) :: ls.filter (fun q => !(q.1 == i.val) && !(q.1 + 1 == i.val && q.2.category == 2)) = lt) (kk : Mz m R D A p l e s mi args below meth c Q (pc + 1) lt st ws n k) : Mz m R D A p l e s mi args below meth c Q pc ls (.ref x :: st) ws n k :=
  fun H locs _ hP hD hS hl => lv_astore_n C.1.1 C.1.2.1 hd rfl hl hn hl2 (fun arr hl => kk H locs arr hP hD hS hl)
theorem mz_istore (C : zC m D cI cZ A p s mi args meth c) {i : Fin 4} {x : Int32} {lt : List (Nat × Value)} (hd : decode m.2.1 pc = .ok (.istore_n i, 1)) (hn : i.val < m.2.2.1) (hl2 : (i.val, Value.int x) :: ls.filter (fun q => !(q.1 == i.val) && !(q.1 + 1 == i.val && q.2.category == 2)) = lt) (kk : Mz m R D A p l e s mi args below meth c Q (pc + 1) lt st ws n k) : Mz m R D A p l e s mi args below meth c Q pc ls (.int x :: st) ws n k :=
  fun H locs _ hP hD hS hl => lv_istore_n C.1.1 C.1.2.1 hd rfl hl hn hl2 (fun arr hl => kk H locs arr hP hD hS hl)
theorem mz_iinc (C : zC m D cI cZ A p s mi args meth c) {i : Nat} {z : Int} {x : Int32} (v : Int32) {lt : List (Nat × Value)} (j : Nat) (hd : decode m.2.1 pc = .ok (.iinc i z, 3)) (h : ls[j]? = some (i, .int x)) (hv : x + Int32.ofInt z = v) (hn : i < m.2.2.1) (hl2 : (i, Value.int v) :: ls.filter (fun q => !(q.1 == i) && !(q.1 + 1 == i && q.2.category == 2)) = lt) (kk : Mz m R D A p l e s mi args below meth c Q (pc + 3) lt st ws n k) : Mz m R D A p l e s mi args below meth c Q pc ls st ws n k :=
  fun H locs _ hP hD hS hl => lv_iinc (v := v) C.1.1 C.1.2.1 hd hl h hv hn hl2 (fun arr hl => kk H locs arr hP hD hS hl)
theorem mz_icmp_ge_f (C : zC m D cI cZ A p s mi args meth c) {x y : Int32} {off : Int} (tgt : Nat) (hd : decode m.2.1 pc = .ok (.if_icmp .ge off, 3)) (ht : (pc : Int) + off = (tgt : Int)) (h : ¬ y ≤ x) (kk : Mz m R D A p l e s mi args below meth c Q (pc + 3) ls st ws n k) : Mz m R D A p l e s mi args below meth c Q pc ls (.int y :: .int x :: st) ws n k :=
  fun H locs arr hP hD hS hl => lv_icmp_ge (tgt := tgt) C.1.1 C.1.2.1 hd ht (fun q => absurd q h) (fun _ => kk H locs arr hP hD hS hl)
theorem mz_icmp_ge_t (C : zC m D cI cZ A p s mi args meth c) {x y : Int32} {off : Int} (tgt : Nat) (hd : decode m.2.1 pc = .ok (.if_icmp .ge off, 3)) (ht : (pc : Int) + off = (tgt : Int)) (h : y ≤ x) (kk : Mz m R D A p l e s mi args below meth c Q tgt ls st ws n k) : Mz m R D A p l e s mi args below meth c Q pc ls (.int y :: .int x :: st) ws n k :=
  fun H locs arr hP hD hS hl => lv_icmp_ge (tgt := tgt) C.1.1 C.1.2.1 hd ht (fun _ => kk H locs arr hP hD hS hl) (fun q => absurd h q)
theorem mz_newI (C : zC m D cI cZ A p s mi args meth c) {z : Nat} (hz0 : Nat.ble (z + 1) 100000 = true) (hn : n + 1 ≤ R.cells) (hk : k + z ≤ R.slots) (hd : decode m.2.1 pc = .ok (.newarray .int, 2)) (kk : ∀ q : Nat, Mz m R D A p l e s mi args below meth c Q (pc + 2) ls (.ref q :: st) (ws ++ [(q, .inl (cI, z, .inl (fun _ => 0)))]) (n + 1) (k + z)) : Mz m R D A p l e s mi args below meth c Q pc ls (.int (nI z) :: st) ws n k := by
  have hz : z < 100000 := Nat.le_of_ble_eq_true hz0
  intro H locs arr hP hD hS hl
  refine va_newa (atype := .int) (ty := .int) (a0 := (z, .inl (fun _ => 0))) (N' := z) C.1.1 C.1.2.1 (C.1.2.2.2.2.2.1 _ tq190) rfl C.2.1 hP hD hS C.2.2 (fun cA => rfl) (nI_pos (by omega)) (nI_clamp (by omega)) ?_ hn hk hd (fun q cA H1 hK1 hP1 hD1 hS1 => ?_)
  · show z * 4 ≤ 536870912
    omega
  · obtain rfl : cA = cI := k_uniq hK1 (Or.inl rfl) (i := 2) (j := 0) rfl rfl
    exact kk q H1 locs arr hP1 hD1 hS1 hl
theorem mz_newZ (C : zC m D cI cZ A p s mi args meth c) {z : Nat} (hz0 : Nat.ble (z + 1) 100000 = true) (hn : n + 1 ≤ R.cells) (hk : k + z ≤ R.slots) (hd : decode m.2.1 pc = .ok (.newarray .boolean, 2)) (kk : ∀ q : Nat, Mz m R D A p l e s mi args below meth c Q (pc + 2) ls (.ref q :: st) (ws ++ [(q, .inl (cZ, z, .inl (fun _ => 0)))]) (n + 1) (k + z)) : Mz m R D A p l e s mi args below meth c Q pc ls (.int (nI z) :: st) ws n k := by
  have hz : z < 100000 := Nat.le_of_ble_eq_true hz0
  intro H locs arr hP hD hS hl
  refine va_newa (atype := .boolean) (ty := .boolean) (a0 := (z, .inl (fun _ => 0))) (N' := z) C.1.1 C.1.2.1 (C.1.2.2.2.2.2.1 _ tq191) rfl C.2.1 hP hD hS C.2.2 (fun cA => rfl) (nI_pos (by omega)) (nI_clamp (by omega)) ?_ hn hk hd (fun q cA H1 hK1 hP1 hD1 hS1 => ?_)
  · show z * 1 ≤ 536870912
    omega
  · obtain rfl : cA = cZ := k_uniq hK1 (Or.inr rfl) (i := 2) (j := 1) rfl rfl
    exact kk q H1 locs arr hP1 hD1 hS1 hl
theorem mz_iast (C : zC m D cI cZ A p s mi args meth c) {a z j : Nat} {f : Nat → Int32} {x : Int32} {w2 : va_W} (q0 : Nat) (hd : decode m.2.1 pc = .ok (.iastore, 1)) (he : ws[q0]? = some (a, .inl (cI, z, .inl f))) (hj : j < z) (hz : z < 100000) (hw : ws.set q0 (a, .inl (cI, z, .inl (upd f j x))) = w2) (kk : Mz m R D A p l e s mi args below meth c Q (pc + 1) ls st w2 n k) : Mz m R D A p l e s mi args below meth c Q pc ls (.int x :: .int (nI j) :: .ref a :: st) ws n k := by
  intro H locs arr hP hD hS hl
  refine va_iast (D := D) C.1.1 C.1.2.1 C.2.1 hP hD hS q0 0 (cA := cI) (n := z) (f := f) he rfl (nI_in hj (by omega)) hd (fun H1 locs1 hP1 hD1 hS1 => ?_)
  rw [nI_clamp (by omega), hw] at hP1 hD1
  exact kk H1 locs1 arr hP1 hD1 hS1 hl
theorem mz_putF (C : zC m D cI cZ A p s mi args meth c) (hin : meth.name = "<init>") {ci N idx a : Nat} {T : u_T} {fs : List Value} {ty : FieldType} {v : Value} {w2 : va_W} (q0 j : Nat) (hg : gCl ci m.1.cls T N) (hd : decode m.2.1 pc = .ok (.putfield idx, 3)) (he : ws[q0]? = some (a, .inr (ci, fs))) (hj : j < N) (hlk : Cond.fieldLink m.1.cls idx (T j).1 (T j).2.1 (T j).2.2.1 ∈ TB) (hfin : (T j).2.2.2 = true) (hdecl : (T j).1 = m.1.cls) (hp : parseFieldDescriptor (T j).2.2.1 = some ty) (hn : narrow ty v = v) (hfit : fits ty v = true) (hl2 : Nat.ble (j + 1) fs.length = true) (hw : ws.set q0 (a, .inr (ci, fs.set j v)) = w2) (kk : Mz m R D A p l e s mi args below meth c Q (pc + 3) ls st w2 n k) : Mz m R D A p l e s mi args below meth c Q pc ls (v :: .ref a :: st) ws n k := by
  intro H locs arr hP hD hS hl
  obtain ⟨ty0, hty0⟩ := hg.2.2.2
  refine va_putF (D := D) (ci := ci) (v := v) (ty := ty) (C := m.1.cls) (T := T) (N := N) C.1.1 C.1.2.1 C.1.2.2.2.2.2.1 hg.2.1 ty0 hty0 hg.2.2.1 C.1.2.2.2.2.1 C.2.1 hP hD hS q0 he hg.1 j hj (C.1.2.2.2.2.2.1 _ hlk) (fun _ h9 => h9) hfin hin hdecl hp hn hfit (Nat.le_of_ble_eq_true hl2) hd (fun H1 locs1 hP1 hD1 hS1 => ?_)
  rw [hw] at hP1 hD1
  exact kk H1 locs1 arr hP1 hD1 hS1 hl
theorem mz_put (C : zC m D cI cZ A p s mi args meth c) {ci N idx a : Nat} {T : u_T} {fs : List Value} {ty : FieldType} {v : Value} {w2 : va_W} (q0 j : Nat) (hg : gCl ci m.1.cls T N) (hd : decode m.2.1 pc = .ok (.putfield idx, 3)) (he : ws[q0]? = some (a, .inr (ci, fs))) (hj : j < N) (hlk : Cond.fieldLink m.1.cls idx (T j).1 (T j).2.1 (T j).2.2.1 ∈ TB) (hfin : (T j).2.2.2 = false) (hp : parseFieldDescriptor (T j).2.2.1 = some ty) (hn : narrow ty v = v) (hfit : fits ty v = true) (hl2 : Nat.ble (j + 1) fs.length = true) (hw : ws.set q0 (a, .inr (ci, fs.set j v)) = w2) (kk : Mz m R D A p l e s mi args below meth c Q (pc + 3) ls st w2 n k) : Mz m R D A p l e s mi args below meth c Q pc ls (v :: .ref a :: st) ws n k := by
  intro H locs arr hP hD hS hl
  obtain ⟨ty0, hty0⟩ := hg.2.2.2
  refine va_put (D := D) (ci := ci) (v := v) (ty := ty) (C := m.1.cls) (T := T) (N := N) C.1.1 C.1.2.1 C.1.2.2.2.2.2.1 hg.2.1 ty0 hty0 hg.2.2.1 C.1.2.2.2.2.1 C.2.1 hP hD hS q0 he hg.1 j hj (C.1.2.2.2.2.2.1 _ hlk) (fun _ h9 => h9) hfin hp hn hfit (Nat.le_of_ble_eq_true hl2) hd (fun H1 locs1 hP1 hD1 hS1 => ?_)
  rw [hw] at hP1 hD1
  exact kk H1 locs1 arr hP1 hD1 hS1 hl
theorem mz_get (C : zC m D cI cZ A p s mi args meth c) {ci N idx a : Nat} {T : u_T} {fs : List Value} {v : Value} (q0 j : Nat) (hg : gCl ci m.1.cls T N) (hd : decode m.2.1 pc = .ok (.getfield idx, 3)) (he : ws[q0]? = some (a, .inr (ci, fs))) (hj : j < N) (hlk : Cond.fieldLink m.1.cls idx (T j).1 (T j).2.1 (T j).2.2.1 ∈ TB) (hv : fs[j]? = some v) (kk : Mz m R D A p l e s mi args below meth c Q (pc + 3) ls (v :: st) ws n k) : Mz m R D A p l e s mi args below meth c Q pc ls (.ref a :: st) ws n k :=
  fun H locs arr hP hD hS hl => va_get (D := D) (ci := ci) (v := v) (C := m.1.cls) (T := T) (N := N) C.1.1 C.1.2.1 C.1.2.2.2.2.2.1 hg.2.1 C.1.2.2.2.2.1 C.2.1 hP q0 he hg.1 j hj (C.1.2.2.2.2.2.1 _ hlk) (fun _ h9 => h9) hv hd (kk H locs arr hP hD hS hl)
theorem mz_obj (C : zC m D cI cZ A p s mi args meth c) {idx a : Nat} (hd : decode m.2.1 pc = .ok (.invokespecial idx, 3)) (hlk : Cond.methodLink m.1.cls idx ⟨"java/lang/Object", "<init>", "()V"⟩ ∈ TB) (hR : 1 ≤ R.frames) (hL0 : Nat.ble ((st.map fun v => v.category).sum + 12) R.locals = true) (kk : Mz m R D A p l e s mi args below meth c Q (pc + 3) ls st ws n k) : Mz m R D A p l e s mi args below meth c Q pc ls (.ref a :: st) ws n k := by
  intro H locs arr hP hD hS hl
  refine W.objInit C.1.1 C.1.2.1 C.1.2.2.2.2.1 (C.1.2.2.2.2.2.1 _ hlk) (C.1.2.2.2.2.2.1 _ tw124) (C.1.2.2.2.2.2.1 _ tq124) rfl (hl.1.trans C.1.2.2.2.1.symm) rfl hd hR ?_ ?_
  · have hL := Nat.le_of_ble_eq_true hL0
    show 2 * 0 + (st.map fun v => v.category).sum + 12 ≤ R.locals
    omega
  · exact W.eq (g2 := F0 mi (pc + 3) arr st) rfl (kk H locs arr hP hD hS hl)
theorem mz_new (C : zC m D cI cZ A p s mi args meth c) {ci N idx : Nat} {T : u_T} {C2 : String} (fs : List Value) (ty : Nat → FieldType) (hg : gCl ci C2 T N) (hd : decode m.2.1 pc = .ok (.new idx, 3)) (hty : ∀ k, k < N → parseFieldDescriptor (T k).2.2.1 = some (ty k)) (hcl : Cond.classLink m.1.cls idx C2 ∈ TB) (hinst : Cond.instantiable C2 N ∈ TB) (hini : Cond.initialized C2 ∈ TB) (hfs : ∀ j, j < N → defaultValue (ty j) = vp_V fs j) (hn : n + 1 ≤ R.cells) (hk : k + N ≤ R.slots) (kk : ∀ q : Nat, Mz m R D A p l e s mi args below meth c Q (pc + 3) ls (.ref q :: st) (ws ++ [(q, .inr (ci, fs))]) (n + 1) (k + N)) : Mz m R D A p l e s mi args below meth c Q pc ls st ws n k :=
  fun H locs arr hP hD hS hl => va_new (ci := ci) (fs := fs) (C := C2) (T := T) (N := N) C.1.1 C.1.2.1 C.1.2.2.2.2.2.1 hg.2.1 ty hty C.1.2.2.2.2.1 (C.1.2.2.2.2.2.1 _ hcl) (C.1.2.2.2.2.2.1 _ hinst) (C.1.2.2.2.2.2.1 _ hini) C.2.1 hP hD hS C.2.2 hg.1 hfs hn hk hd (fun q H1 hP1 hD1 hS1 => kk q H1 locs arr hP1 hD1 hS1 hl)
theorem mz_ret (C : zC m D cI cZ A p s mi args meth c) {post : va_W → Prop} (hret : m.2.2.2 = none) (hd : decode m.2.1 pc = .ok (.return_, 1)) (hp : post ws) : Mz m R D A p l e s mi args below meth c (MQ below (va_Qv post (zWB D cI cZ A) A) args s n k A) pc ls [] ws n k := by
  intro H locs arr hP hD hS hl
  exact W.vret C.1.1 C.1.2.1 (by rw [C.1.2.2.1]; exact hret) (fun t ht hW => ⟨⟨ws, rfl, hp, by rw [ht]; exact hP, va_K.moved hW.alike C.2.1, hD⟩, hS.F ht⟩) hS.2.2 hd C.1.2.2.2.2.2.2
/-- a constructor's call -/
theorem mz_call (C : zC m D cI cZ A p s mi args meth c) {y : Me} {rmy : Room} {X : State → Prop} {as st0 : List Value} {a idx mc ms : Nat} {wc wr : va_W} {post : va_W → Prop} (isC isR : List Nat) (hd : decode m.2.1 pc = .ok (.invokespecial idx, 3)) (hM : Makes cI cZ y rmy X (.ref a :: as) wc post mc ms)
    (hXb : ∀ U U' : State, U'.vm = U.vm → X U → X U') (hX : ∀ U : State, s.WarmedH U.vm → X U) (hC : isC.map (fun i => ws[i]?) = wc.map some) (hC2 : isC.filterMap (fun i => ws[i]?) = wc) (hnc : va_nd isC = true) (hR : isR.map (fun i => ws[i]?) = wr.map some) (hnr : va_nd isR = true) (hdis : ∀ i ∈ isR, i ∉ isC)
    (hy : gCal y) (hlk : Cond.methodLink m.1.cls idx y.1 ∈ TB) (hinst : Cond.instanceMethod y.1 ∈ TB) (hname : y.1.name = "<init>") (hret : y.2.2.2 = none) (hnp : (parseMethodDescriptor y.1.desc).map (fun q => q.parameters.length) = some as.length) (hrc : rmy.cells = mc) (hrs : rmy.slots = ms) (hRo : rmy.frames + 1 ≤ R.frames ∧ 8 + (y.2.2.1 + 11) + rmy.locals ≤ R.locals)
    (hst : st0 = as.reverse ++ .ref a :: st) (hcat : Nat.ble (st.map fun v => v.category).sum 8 = true) (hroom : n + mc ≤ R.cells ∧ k + ms ≤ R.slots) (kk : ∀ w1, post w1 → Mz m R D A p l e s mi args below meth c Q (pc + 3) ls st (wr ++ w1) (n + mc) (k + ms)) : Mz m R D A p l e s mi args below meth c Q pc ls st0 ws n k := by
  intro H locs arr hP hD hS hl
  have hPc := hP.sub (ws' := wc) isC hC2
  have hDc := hD.sub (ws' := wc) isC hnc hC
  have hFc := va_free (wc := wc) hD hS C.2.2 isC hC
  subst hst
  refine va_callv (va_runI (As := as) (b := a) (rest := st) ⟨C.1.1, C.1.2.1, C.1.2.2.2.1, C.1.2.2.2.2.1, C.1.2.2.2.2.2.1⟩ (hM l D H.size) (cwI (bytes := y.2.1) (maxL := y.2.2.1) (ws' := TB) as.length C.1.2.2.2.2.2.1 (gGood2 hy) (by unfold wsM; rw [hret]) hrc hrs (C.1.2.2.2.2.2.1 _ hy.2.1) (C.1.2.2.2.2.2.1 _ hlk) (C.1.2.2.2.2.2.1 _ hinst) hname ⟨hy.2.2.1, hy.2.2.2, hnp⟩ hRo)
    ⟨fun a U g mk q => by obtain ⟨q0, q1, qP, qK, qD, qX⟩ := q; exact ⟨q0, q1, qP, va_K.moved (u := U) (U := U.calling g mk a) (Vm.Alike.refl U.vm) qK, qD, hXb U (U.calling g mk a) rfl qX⟩, fun U hU hW => ⟨rfl, by rw [hU], by rw [hU]; exact hPc, va_K.moved hW.alike C.2.1, hDc.weaken (fun _ _ _ _ => trivial), hX U hW⟩⟩ rfl rfl hl.1 rfl (lv_room (Nat.le_of_ble_eq_true hcat)) hd hroom) hS (fun q _ h => hFc q h) hFc (fun u t H1 locs ht hvm hw hB hz1 hk1 hS => ?_)
  obtain ⟨hP1, hK1, hD1⟩ := hB
  rw [ht] at hP1
  obtain ⟨hP2, hD2⟩ := va_join (wr := wr) (w1 := u) hP hD isC isR hC hR hnr hdis hk1 hFc hP1 hD1
  exact kk u hw H1 locs arr hP2 hD2 hS hl
/-- a call of a nest mate's own constructor -/
theorem mz_callN (C : zC m D cI cZ A p s mi args meth c) {y : Me} {rmy : Room} {X : State → Prop} {as st0 : List Value} {a idx mc ms : Nat} {wc wr : va_W} {post : va_W → Prop} (host : String) (isC isR : List Nat) (hd : decode m.2.1 pc = .ok (.invokespecial idx, 3)) (hM : Makes cI cZ y rmy X (.ref a :: as) wc post mc ms)
    (hXb : ∀ U U' : State, U'.vm = U.vm → X U → X U') (hX : ∀ U : State, s.WarmedH U.vm → X U) (hC : isC.map (fun i => ws[i]?) = wc.map some) (hC2 : isC.filterMap (fun i => ws[i]?) = wc) (hnc : va_nd isC = true) (hR : isR.map (fun i => ws[i]?) = wr.map some) (hnr : va_nd isR = true) (hdis : ∀ i ∈ isR, i ∉ isC)
    (hy : gCal y) (hlk : va_Nw (.methodLinkNest m.1.cls idx y.1 host) s) (hinst : Cond.instanceMethod y.1 ∈ TB) (hname : y.1.name = "<init>") (hret : y.2.2.2 = none) (hnp : (parseMethodDescriptor y.1.desc).map (fun q => q.parameters.length) = some as.length) (hrc : rmy.cells = mc) (hrs : rmy.slots = ms) (hRo : rmy.frames + 1 ≤ R.frames ∧ 8 + (y.2.2.1 + 11) + rmy.locals ≤ R.locals)
    (hst : st0 = as.reverse ++ .ref a :: st) (hcat : Nat.ble (st.map fun v => v.category).sum 8 = true) (hroom : n + mc ≤ R.cells ∧ k + ms ≤ R.slots) (kk : ∀ w1, post w1 → Mz m R D A p l e s mi args below meth c Q (pc + 3) ls st (wr ++ w1) (n + mc) (k + ms)) : Mz m R D A p l e s mi args below meth c Q pc ls st0 ws n k := by
  intro H locs arr hP hD hS hl
  have hPc := hP.sub (ws' := wc) isC hC2
  have hDc := hD.sub (ws' := wc) isC hnc hC
  have hFc := va_free (wc := wc) hD hS C.2.2 isC hC
  subst hst
  refine va_callv (va_runIN (host := host) (As := as) (b := a) (rest := st) ⟨C.1.1, C.1.2.1, C.1.2.2.2.1, C.1.2.2.2.2.1, C.1.2.2.2.2.2.1⟩ (hM l D H.size) ⟨va_cnB (bytes := y.2.1) (maxL := y.2.2.1) (ret := none) (ws' := TB) as.length C.1.2.2.2.2.2.1 (gGood2 hy) (by unfold wsM; rw [hret]) hrc hrs hlk (C.1.2.2.2.2.2.1 _ hy.2.1) ⟨hy.2.2.1, hy.2.2.2, hnp⟩ hRo, hname, C.1.2.2.2.2.2.1 _ hinst⟩
    ⟨fun a U g mk q => by obtain ⟨q0, q1, qP, qK, qD, qX⟩ := q; exact ⟨q0, q1, qP, va_K.moved (u := U) (U := U.calling g mk a) (Vm.Alike.refl U.vm) qK, qD, hXb U (U.calling g mk a) rfl qX⟩, fun U hU hW => ⟨rfl, by rw [hU], by rw [hU]; exact hPc, va_K.moved hW.alike C.2.1, hDc.weaken (fun _ _ _ _ => trivial), hX U hW⟩⟩ rfl rfl hl.1 rfl (lv_room (Nat.le_of_ble_eq_true hcat)) hd hroom) hS (fun q _ h => hFc q h) hFc (fun u t H1 locs ht hvm hw hB hz1 hk1 hS => ?_)
  obtain ⟨hP1, hK1, hD1⟩ := hB
  rw [ht] at hP1
  obtain ⟨hP2, hD2⟩ := va_join (wr := wr) (w1 := u) hP hD isC isR hC hR hnr hdis hk1 hFc hP1 hD1
  exact kk u hw H1 locs arr hP2 hD2 hS hl
end MKZ
/-- a constructor's contract out of a walk of its body -/
theorem Makes.of {cI cZ : ClassId} {m : Me} {rm : Room} {X : State → Prop} {av : List Value} {w0 : va_W} {post : va_W → Prop} {mc ms : Nat} (hy : plainName m.1.cls = true) (hlen : (lg_sl av).length ≤ m.2.2.1)
    (kk : ∀ (l : Launch) (D : va_G) (A : Nat → Prop) (p : Program) (e : Env) (s : State) (mi : MethodId) (args : Array Value) (below : List Frame) (meth : Method) (c : Code), zC m D cI cZ A p s mi args meth c → meth.name = m.1.name → X s → Mz m rm D A p l e s mi args below meth c (MQ below (va_Qv post (zWB D cI cZ A) A) args s mc ms A) 0 (lv_args 0 av) [] w0 0 0) : Makes cI cZ m rm X av w0 post mc ms := by
  intro l D sz
  refine Met.ofW (cc := m.2.1) (maxL := m.2.2.1) (ret := m.2.2.2) hy rfl ?_
  intro p e s mi args' below meth c s₁ B hml hv
  obtain ⟨rfl, hsz, hP, hK, hD, hX⟩ := hv
  have hts := atoms_spec (ws := wsM m) B.pre
  rw [lg_entry_eq]
  subst hsz
  exact kk l D (va_A w0 s.heap.size) p e s mi _ below meth c ⟨⟨B.exec, B.bytes, B.returns, hml, findClass_of_methodNamed B.named, fun w hw => hts w (List.mem_cons_of_mem _ hw), B.notSynchronized⟩, hK, fun q h => Or.inr h⟩ (name_of_methodNamed B.named B.method).1 hX s.heap [] _ hP hD.self va_S.rf (lv_entry _ hlen)
