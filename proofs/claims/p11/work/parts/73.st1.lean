/-! String constants: their length and signs, through the JDK's own methods -/
theorem g_ldcS {m : Me} {d : Nat} {Q : Po} {pc : Nat} {ls : Lv} {st : St} {M : Mm} {idx : Nat} {tx : String} (i : Nat) (hown : m.1.cls = "FairTurns$Condition") (hq : strI[i]? = some (idx, tx)) (hd : decode m.2.1 pc = .ok (.ldc idx, 2)) (kk : Go m d Q (pc + 2) ls (.ref (NN + 2 + i) :: st) M) : Go m d Q pc ls st M := by
  intro p l e s mi args below meth c G sz hF hK hS hz H locs arr hP hD hFr hl
  exact va_ldcS hF.1 hF.2.1 (own := "FairTurns$Condition") (by rw [← hown]; exact hF.2.2.2.2.1) (hS.2.2.2.2.2.1 i (idx, tx) hq) hd (kk p l e s mi args below meth c G sz hF hK hS hz H locs arr hP hD hFr hl)
theorem g_strV {m : Me} {d : Nat} {Q : Po} {pc : Nat} {ls : Lv} {st : St} {M : Mm} {idx i : Nat} (hi : i < 6) (hlk : Cond.fieldLink m.1.cls idx "java/lang/String" "value" "[B" ∈ TB) (hd : decode m.2.1 pc = .ok (.getfield idx, 3)) (kk : Go m d Q (pc + 3) ls (.ref (NN + 8 + i) :: st) M) : Go m d Q pc ls (.ref (NN + 2 + i) :: st) M := by
  intro p l e s mi args below meth c G sz hF hK hS hz H locs arr hP hD hFr hl
  exact vk_getf hF.1 hF.2.1 ((hS.2.2.2.2.1).1 i hi).2.2.1 hFr hF.2.2.2.2.1 (hF.2.2.2.2.2.1 _ (TBm hlk)) (fun _ h => h) hd (kk p l e s mi args below meth c G sz hF hK hS hz H locs arr hP hD hFr hl)
theorem g_strC {m : Me} {d : Nat} {Q : Po} {pc : Nat} {ls : Lv} {st : St} {M : Mm} {idx i : Nat} (hi : i < 6) (hlk : Cond.fieldLink m.1.cls idx "java/lang/String" "coder" "B" ∈ TB) (hd : decode m.2.1 pc = .ok (.getfield idx, 3)) (kk : Go m d Q (pc + 3) ls (.int (nI 0) :: st) M) : Go m d Q pc ls (.ref (NN + 2 + i) :: st) M := by
  intro p l e s mi args below meth c G sz hF hK hS hz H locs arr hP hD hFr hl
  exact vk_getf (v := .int (nI 0)) hF.1 hF.2.1 ((hS.2.2.2.2.1).1 i hi).2.1 hFr hF.2.2.2.2.1 (hF.2.2.2.2.2.1 _ (TBm hlk)) (fun _ h => h) hd (kk p l e s mi args below meth c G sz hF hK hS hz H locs arr hP hD hFr hl)
theorem g_strL {m : Me} {d : Nat} {Q : Po} {pc : Nat} {ls : Lv} {st : St} {M : Mm} {i : Nat} (hi : i < 6) (hd : decode m.2.1 pc = .ok (.arraylength, 1)) (kk : Go m d Q (pc + 1) ls (.int (nI (strL.getD i 0)) :: st) M) : Go m d Q pc ls (.ref (NN + 8 + i) :: st) M := by
  intro p l e s mi args below meth c G sz hF hK hS hz H locs arr hP hD hFr hl
  exact va_tlen hF.1 hF.2.1 ((hS.2.2.2.2.1).1 i hi).2.2.2 hFr rfl hd (kk p l e s mi args below meth c G sz hF hK hS hz H locs arr hP hD hFr hl)
def chI (i j : Nat) : Int32 := (strB.getD i []).getD j 0
theorem strL_le {i : Nat} : strL.getD i 0 ≤ 7 := by
  match i with
  | 0 => decide
  | 1 => decide
  | 2 => decide
  | 3 => decide
  | 4 => decide
  | 5 => decide
  | n + 6 => simp [strL]
theorem g_strB {m : Me} {d : Nat} {Q : Po} {pc : Nat} {ls : Lv} {st : St} {M : Mm} {i j : Nat} (hi : i < 6) (hj : j < strL.getD i 0) (hd : decode m.2.1 pc = .ok (.baload, 1)) (kk : Go m d Q (pc + 1) ls (.int (chI i j) :: st) M) : Go m d Q pc ls (.int (nI j) :: .ref (NN + 8 + i) :: st) M := by
  intro p l e s mi args below meth c G sz hF hK hS hz H locs arr hP hD hFr hl
  have h7 := strL_le (i := i)
  exact va_tb (v := .int (chI i j)) hF.1 hF.2.1 ((hS.2.2.2.2.1).1 i hi).2.2.2 hFr (nI_in hj (by omega)) (by rw [nI_clamp (by omega)]; rfl) hd (kk p l e s mi args below meth c G sz hF hK hS hz H locs arr hP hD hFr hl)
theorem g_compact {m : Me} {d : Nat} {Q : Po} {pc : Nat} {ls : Lv} {st : St} {M : Mm} {idx : Nat} (hlk : Cond.fieldLink m.1.cls idx "java/lang/String" "COMPACT_STRINGS" "Z" ∈ TB) (hd : decode m.2.1 pc = .ok (.getstatic idx, 3)) (kk : Go m d Q (pc + 3) ls (.int (nI 1) :: st) M) : Go m d Q pc ls st M := by
  intro p l e s mi args below meth c G sz hF hK hS hz H locs arr hP hD hFr hl
  exact va_gets (v := .int (nI 1)) hF.1 hF.2.1 hS.2.2.2.2.2.2.1 hFr hF.2.2.2.2.1 (hF.2.2.2.2.2.1 _ (TBm hlk)) (fun _ h => h) hd (kk p l e s mi args below meth c G sz hF hK hS hz H locs arr hP hD hFr hl)
theorem g_sioobe {m : Me} {d : Nat} {Q : Po} {pc : Nat} {ls : Lv} {st : St} {M : Mm} {idx : Nat} (hlk : Cond.fieldLink m.1.cls idx "jdk/internal/util/Preconditions" "SIOOBE_FORMATTER" "Ljava/util/function/BiFunction;" ∈ TB) (hd : decode m.2.1 pc = .ok (.getstatic idx, 3)) (kn : Go m d Q (pc + 3) ls (.null :: st) M) (kr : Go m d Q (pc + 3) ls (.ref (NN + 14) :: st) M) : Go m d Q pc ls st M := by
  intro p l e s mi args below meth c G sz hF hK hS hz H locs arr hP hD hFr hl
  rcases hS.2.2.2.2.2.2.2.1 with h8 | h8
  · exact va_gets (v := .null) hF.1 hF.2.1 h8 hFr hF.2.2.2.2.1 (hF.2.2.2.2.2.1 _ (TBm hlk)) (fun _ h => h) hd (kn p l e s mi args below meth c G sz hF hK hS hz H locs arr hP hD hFr hl)
  · exact va_gets (v := .ref (G.1 (NN + 14))) hF.1 hF.2.1 h8 hFr hF.2.2.2.2.1 (hF.2.2.2.2.2.1 _ (TBm hlk)) (fun _ h => h) hd (kr p l e s mi args below meth c G sz hF hK hS hz H locs arr hP hD hFr hl)
theorem g_i2c {m : Me} {d : Nat} {Q : Po} {pc : Nat} {ls : Lv} {st : St} {M : Mm} {x : Int32} (v : Int32) (hv : (x.toUInt32 % 65536).toInt32 = v) (hd : decode m.2.1 pc = .ok (.i2c, 1)) (kk : Go m d Q (pc + 1) ls (.int v :: st) M) : Go m d Q pc ls (.int x :: st) M := by
  intro p l e s mi args below meth c G sz hF hK hS hz H locs arr hP hD hFr hl
  exact lv_i2c hF.1 hF.2.1 hd hv (kk p l e s mi args below meth c G sz hF hK hS hz H locs arr hP hD hFr hl)
theorem g_callT {m y : Me} {d : Nat} {Q : Po} {pc : Nat} {ls : Lv} {st st0 : St} {M : Mm} (as : List Value) {i idx : Nat}
    (hd : decode m.2.1 pc = .ok (.invokevirtual idx, 3)) (hyV : gCalV y as.length) (hlk : Cond.methodLink m.1.cls idx y.1 ∈ TB)
    (hC : "java/lang/String" = y.1.cls) (hi : i < 6) (hst : st0 = as.reverse ++ .ref (NN + 2 + i) :: st) (hcat : (st.map fun v => v.category).sum ≤ 8)
    (kk : Call d y (.ref (NN + 2 + i) :: as) M (fun M' r => GoR m (d + 1) Q (pc + 3) ls r st M')) : Go m (d + 1) Q pc ls st0 M := by
  intro p l e s mi args below meth c G sz hF hK hS hz H locs arr hP hD hFr hl
  obtain ⟨hy, hin, hsel, hn, hml⟩ := hyV
  have hts := hF.2.2.2.2.2.1
  have hgS : ∀ U : State, U.heap = H → s.WarmedH U.vm → gP G sz M U U.heap := fun U hU hW => by
    rw [hU]
    exact ⟨Nat.le_trans hz hFr.1, hP, va_K.moved hW.alike hK, hD, (hS.kept hFr.2.1).warm hW⟩
  refine g_after (Qa := fun M' r => GoR m (d + 1) Q (pc + 3) ls r st M') (m := m) (st := st) (a := (Value.ref (G.1 (NN + 2 + i)) :: as.map (cv G)).toArray) hF hS hz hFr hl
    (va_runV (As := as.map (cv G)) (b := G.1 (NN + 2 + i)) (C := y.1.cls) ⟨hF.1, hF.2.1, hF.2.2.2.1, hF.2.2.2.2.1, hts⟩ (kk l G sz)
      (cwV (bytes := y.2.1) (maxL := y.2.2.1) (ret := y.2.2.2) (ws' := TB) as.length hts (goodIn_app4 (gGood hy) hlk hin hsel hy.2.1) rfl rfl rfl ⟨rfl, hy.2.2.1, hy.2.2.2, hn⟩ (rmd_ok d hml))
      ⟨gBlind, by rw [← hC]; exact vk_recv (i := i) hS.2.2.2.2.1 hi hFr, fun U hU hW => ⟨rfl, hgS U hU hW⟩⟩ rfl (by simp) hl.1 ?_ ?_ hd ⟨Nat.le_refl _, Nat.le_refl _⟩) (fun M' r h => h.to)
  · rw [hst]; simp [cv]
  · refine lv_room ?_
    rw [List.map_map]
    have : ((fun v => v.category) ∘ cv G) = (fun v : Value => v.category) := by funext v; exact cv_cat G v
    rw [this]
    exact hcat
theorem g_strcall0 {m y : Me} {d : Nat} {Q : Po} {pc : Nat} {ls : Lv} {st : St} {M : Mm} {i idx : Nat} (hd : decode m.2.1 pc = .ok (.invokevirtual idx, 3)) (hyV : gCalV y 0) (hlk : Cond.methodLink m.1.cls idx y.1 ∈ TB) (hC : "java/lang/String" = y.1.cls) (hi : i < 6) (hcat : (st.map fun v => v.category).sum ≤ 8) (kk : Call d y [.ref (NN + 2 + i)] M (fun M' r => GoR m (d + 1) Q (pc + 3) ls r st M')) : Go m (d + 1) Q pc ls (.ref (NN + 2 + i) :: st) M := g_callT [] hd hyV hlk hC hi rfl hcat kk
theorem g_strcall1 {m y : Me} {d : Nat} {Q : Po} {pc : Nat} {ls : Lv} {st : St} {M : Mm} {a1 : Value} {i idx : Nat} (hd : decode m.2.1 pc = .ok (.invokevirtual idx, 3)) (hyV : gCalV y 1) (hlk : Cond.methodLink m.1.cls idx y.1 ∈ TB) (hC : "java/lang/String" = y.1.cls) (hi : i < 6) (hcat : (st.map fun v => v.category).sum ≤ 8) (kk : Call d y [.ref (NN + 2 + i), a1] M (fun M' r => GoR m (d + 1) Q (pc + 3) ls r st M')) : Go m (d + 1) Q pc ls (a1 :: .ref (NN + 2 + i) :: st) M := g_callT [a1] hd hyV hlk hC hi rfl hcat kk
theorem SJ_coder {d : Nat} {M : Mm} {Q : Po} {i : Nat} (hi : i < 6) (h : Q M (some (.int (nI 0)))) : Call (d + 1) mJ0_coder_7d493 [.ref (NN + 2 + i)] M Q := by
  refine Call_of (m := mJ0_coder_7d493) [some (.ref (NN + 2 + i))] rfl (fun G => Nat.le_of_ble_eq_true rfl) (fun G => rfl) ?_
  refine g_compact fl_RJ0_38 dJ0_coder_7d493_0 ?_
  refine g_if_eq_n 13 dJ0_coder_7d493_3 (by decide) (by omega) (fun c3 => ?_) (fun c3 => ?_)
  · exact absurd c3 (by decide)
  · refine g_aload_n dJ0_coder_7d493_6 rfl ?_
    refine g_strC hi fl_RJ0_15 dJ0_coder_7d493_7 ?_
    refine g_goto 14 dJ0_coder_7d493_10 (by decide) ?_
    refine g_ireturn dJ0_coder_7d493_14 rfl (by first | rfl | exact nar_bI _) ?_
    exact h
theorem len_shr : ∀ i, i < 6 → nI (strL.getD i 0) >>> (nI 0 &&& 31) = nI (strL.getD i 0) := by decide +kernel
theorem SJ_length {d : Nat} {M : Mm} {Q : Po} {i : Nat} (hi : i < 6) (h : Q M (some (.int (nI (strL.getD i 0))))) : Call (d + 2) mJ0_length_8abf5 [.ref (NN + 2 + i)] M Q := by
  refine Call_of (m := mJ0_length_8abf5) [some (.ref (NN + 2 + i))] rfl (fun G => Nat.le_of_ble_eq_true rfl) (fun G => rfl) ?_
  refine g_aload_n dJ0_length_8abf5_0 rfl ?_
  refine g_strV hi fl_RJ0_9 dJ0_length_8abf5_1 ?_
  refine g_strL hi dJ0_length_8abf5_4 ?_
  refine g_aload_n dJ0_length_8abf5_5 rfl ?_
  refine g_strcall0 dJ0_length_8abf5_6 clJ0_coder_7d493 ml_RJ0_335 rfl hi (Nat.le_of_ble_eq_true rfl) ?_
  refine SJ_coder hi ?_
  refine g_ishr dJ0_length_8abf5_9 ?_
  rw [len_shr i hi]
  refine g_ireturn dJ0_length_8abf5_10 rfl (by first | rfl | exact nar_bI _) ?_
  exact h
theorem SJ_isLatin1 {d : Nat} {M : Mm} {Q : Po} {i : Nat} (hi : i < 6) (h : Q M (some (.int (nI 1)))) : Call (d + 1) mJ0_isLatin1_aae02 [.ref (NN + 2 + i)] M Q := by
  refine Call_of (m := mJ0_isLatin1_aae02) [some (.ref (NN + 2 + i))] rfl (fun G => Nat.le_of_ble_eq_true rfl) (fun G => rfl) ?_
  refine g_compact fl_RJ0_38 dJ0_isLatin1_aae02_0 ?_
  refine g_if_eq_n 17 dJ0_isLatin1_aae02_3 (by decide) (by omega) (fun c3 => ?_) (fun c3 => ?_)
  · exact absurd c3 (by decide)
  · refine g_aload_n dJ0_isLatin1_aae02_6 rfl ?_
    refine g_strC hi fl_RJ0_15 dJ0_isLatin1_aae02_7 ?_
    refine g_if_ne_n 17 dJ0_isLatin1_aae02_10 (by decide) (by omega) (fun c10 => ?_) (fun c10 => ?_)
    · exact absurd rfl c10
    · refine g_iconst (nI 1) dJ0_isLatin1_aae02_13 ki_1 ?_
      refine g_goto 18 dJ0_isLatin1_aae02_14 (by decide) ?_
      refine g_ireturn dJ0_isLatin1_aae02_18 rfl (by first | rfl | exact nar_bI _) ?_
      exact h
theorem SJ3_checkIndex_n {d : Nat} {M : Mm} {Q : Po} {j n : Nat} (hj : j < n) (hn : n < 100) (h : Q M (some (.int (nI j)))) : Call (d + 1) mJ3_checkIndex_8e157 [.int (nI j), .int (nI n), .null] M Q := by
  refine Call_of (m := mJ3_checkIndex_8e157) [some (.int (nI j)), some (.int (nI n)), some (.null)] rfl (fun G => Nat.le_of_ble_eq_true rfl) (fun G => rfl) ?_
  refine g_iload_n dJ3_checkIndex_8e157_0 rfl ?_
  refine g_if_lt_n 9 dJ3_checkIndex_8e157_1 (by decide) (by omega) ?_
  refine g_iload_n dJ3_checkIndex_8e157_4 rfl ?_
  refine g_iload_n dJ3_checkIndex_8e157_5 rfl ?_
  refine g_icmp_lt_n 16 dJ3_checkIndex_8e157_6 (by decide) (by omega) (by omega) (fun c6 => ?_) (fun c6 => ?_)
  · refine g_iload_n dJ3_checkIndex_8e157_16 rfl ?_
    refine g_ireturn dJ3_checkIndex_8e157_17 rfl (by first | rfl | exact nar_bI _) ?_
    exact h
  · exact absurd hj c6
theorem SJ3_checkIndex_r {d : Nat} {M : Mm} {Q : Po} {j n : Nat} (hj : j < n) (hn : n < 100) (h : Q M (some (.int (nI j)))) : Call (d + 1) mJ3_checkIndex_8e157 [.int (nI j), .int (nI n), .ref (NN + 14)] M Q := by
  refine Call_of (m := mJ3_checkIndex_8e157) [some (.int (nI j)), some (.int (nI n)), some (.ref (NN + 14))] rfl (fun G => Nat.le_of_ble_eq_true rfl) (fun G => rfl) ?_
  refine g_iload_n dJ3_checkIndex_8e157_0 rfl ?_
  refine g_if_lt_n 9 dJ3_checkIndex_8e157_1 (by decide) (by omega) ?_
  refine g_iload_n dJ3_checkIndex_8e157_4 rfl ?_
  refine g_iload_n dJ3_checkIndex_8e157_5 rfl ?_
  refine g_icmp_lt_n 16 dJ3_checkIndex_8e157_6 (by decide) (by omega) (by omega) (fun c6 => ?_) (fun c6 => ?_)
  · refine g_iload_n dJ3_checkIndex_8e157_16 rfl ?_
    refine g_ireturn dJ3_checkIndex_8e157_17 rfl (by first | rfl | exact nar_bI _) ?_
    exact h
  · exact absurd hj c6
theorem SJ0_checkIndex {d : Nat} {M : Mm} {Q : Po} {j n : Nat} (hj : j < n) (hn : n < 100) (h : Q M none) : Call (d + 2) mJ0_checkIndex_df160 [.int (nI j), .int (nI n)] M Q := by
  refine Call_of (m := mJ0_checkIndex_df160) [some (.int (nI j)), some (.int (nI n))] rfl (fun G => Nat.le_of_ble_eq_true rfl) (fun G => rfl) ?_
  refine g_iload_n dJ0_checkIndex_df160_0 rfl ?_
  refine g_iload_n dJ0_checkIndex_df160_1 rfl ?_
  refine g_sioobe fl_RJ0_1053 dJ0_checkIndex_df160_2 ?_ ?_
  · refine g_calls3 dJ0_checkIndex_df160_5 clJ3_checkIndex_8e157 ml_RJ0_1059 (Nat.le_of_ble_eq_true rfl) ?_
    refine SJ3_checkIndex_n hj hn ?_
    refine g_pop dJ0_checkIndex_df160_8 rfl ?_
    refine g_return dJ0_checkIndex_df160_9 rfl ?_
    exact h
  · refine g_calls3 dJ0_checkIndex_df160_5 clJ3_checkIndex_8e157 ml_RJ0_1059 (Nat.le_of_ble_eq_true rfl) ?_
    refine SJ3_checkIndex_r hj hn ?_
    refine g_pop dJ0_checkIndex_df160_8 rfl ?_
    refine g_return dJ0_checkIndex_df160_9 rfl ?_
    exact h
theorem ch_ok : ∀ i, i < 6 → ∀ j, j < strL.getD i 0 → ((chI i j &&& nI 255).toUInt32 % 65536).toInt32 = chI i j ∧ narrow .char (.int (chI i j)) = .int (chI i j) := by decide +kernel
theorem SJ1_charAt {d : Nat} {M : Mm} {Q : Po} {i j : Nat} (hi : i < 6) (hj : j < strL.getD i 0) (h : Q M (some (.int (chI i j)))) : Call (d + 3) mJ1_charAt_3b067 [.ref (NN + 8 + i), .int (nI j)] M Q := by
  have h7 := strL_le (i := i)
  refine Call_of (m := mJ1_charAt_3b067) [some (.ref (NN + 8 + i)), some (.int (nI j))] rfl (fun G => Nat.le_of_ble_eq_true rfl) (fun G => rfl) ?_
  refine g_iload_n dJ1_charAt_3b067_0 rfl ?_
  refine g_aload_n dJ1_charAt_3b067_1 rfl ?_
  refine g_strL hi dJ1_charAt_3b067_2 ?_
  refine g_calls2 dJ1_charAt_3b067_3 clJ0_checkIndex_df160 ml_RJ1_9 (Nat.le_of_ble_eq_true rfl) ?_
  refine SJ0_checkIndex hj (by omega) ?_
  refine g_aload_n dJ1_charAt_3b067_6 rfl ?_
  refine g_iload_n dJ1_charAt_3b067_7 rfl ?_
  refine g_strB hi hj dJ1_charAt_3b067_8 ?_
  refine g_sipush (nI 255) dJ1_charAt_3b067_9 ks_255 ?_
  refine g_iand dJ1_charAt_3b067_12 ?_
  refine g_i2c (chI i j) (ch_ok i hi j hj).1 dJ1_charAt_3b067_13 ?_
  refine g_ireturn dJ1_charAt_3b067_14 rfl (ch_ok i hi j hj).2 ?_
  exact h
theorem SJ_charAt {d : Nat} {M : Mm} {Q : Po} {i j : Nat} (hi : i < 6) (hj : j < strL.getD i 0) (h : Q M (some (.int (chI i j)))) : Call (d + 4) mJ0_charAt_5068e [.ref (NN + 2 + i), .int (nI j)] M Q := by
  refine Call_of (m := mJ0_charAt_5068e) [some (.ref (NN + 2 + i)), some (.int (nI j))] rfl (fun G => Nat.le_of_ble_eq_true rfl) (fun G => rfl) ?_
  refine g_aload_n dJ0_charAt_5068e_0 rfl ?_
  refine g_strcall0 dJ0_charAt_5068e_1 clJ0_isLatin1_aae02 ml_RJ0_492 rfl hi (Nat.le_of_ble_eq_true rfl) ?_
  refine SJ_isLatin1 hi ?_
  refine g_if_eq_n 16 dJ0_charAt_5068e_4 (by decide) (by omega) (fun c4 => ?_) (fun c4 => ?_)
  · exact absurd c4 (by decide)
  · refine g_aload_n dJ0_charAt_5068e_7 rfl ?_
    refine g_strV hi fl_RJ0_9 dJ0_charAt_5068e_8 ?_
    refine g_iload_n dJ0_charAt_5068e_11 rfl ?_
    refine g_calls2 dJ0_charAt_5068e_12 clJ1_charAt_3b067 ml_RJ0_495 (Nat.le_of_ble_eq_true rfl) ?_
    refine SJ1_charAt hi hj ?_
    refine g_ireturn dJ0_charAt_5068e_15 rfl (ch_ok i hi j hj).2 ?_
    exact h
