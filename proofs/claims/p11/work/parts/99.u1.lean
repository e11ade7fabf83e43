/-! THE LAW: what lies at the start -/
theorem k_arrI {args : Array Value} {s : State} (h : (Cond.arrayClass .int).before args s = true) : ∃ cA : ClassId, ArrOfT s cA .int ∧ va_RA s cA .int := by
  obtain ⟨cA, kA, comp, h1, h2, h3⟩ := Cond.arrayClass_spec h
  exact ⟨cA, fun n z => ⟨fun k h => (by cases h), kA, h2, comp, h3⟩, h1⟩
theorem k_arrZ {args : Array Value} {s : State} (h : (Cond.arrayClass .boolean).before args s = true) : ∃ cA : ClassId, ArrOfT s cA .boolean ∧ va_RA s cA .boolean := by
  obtain ⟨cA, kA, comp, h1, h2, h3⟩ := Cond.arrayClass_spec h
  exact ⟨cA, fun n z => ⟨fun k h => (by cases h), kA, h2, comp, h3⟩, h1⟩
theorem vkS_cong {N : Nat} {len : List Nat} {byt : List (List Int32)} {a b a2 b2 : Nat → Nat} {A : Nat → Prop} {U : State} {H : Heap} (h : vk_S N len byt a b A U H) (h1 : ∀ i, i < N → a2 i = a i) (h2 : ∀ i, i < N → b2 i = b i) : vk_S N len byt a2 b2 A U H :=
  ⟨fun i hi => by rw [h1 i hi, h2 i hi]; exact h.1 i hi, fun i j hi hj e => h.2 i j hi hj (by rw [← h1 i hi, ← h1 j hj]; exact e)⟩
abbrev gvC : Cond := Jvm.Cond.and given_1 narrow_1
abbrev sB : Term := .static "FairTurns" "BURDENS" "[I"
abbrev sL : Term := .static "FairTurns" "LETTERS" "[C"
abbrev sK (i : Nat) : Term := .string "FairTurns$Condition" ((strI.map (fun q => q.1)).getD i 0)
abbrev sV (i : Nat) : Term := .field (sK i) "java/lang/String" "value" "[B"
theorem fb1 : ∀ j, j < 4 → (Cond.eq (.elem sB (.int (Int32.ofNat j))) (.int ([5, 3, 2, 1].getD j 0))) ∈ flatC gvC := by decide +kernel
theorem fb2 : (Cond.arrayOf sB .int) ∈ flatC gvC ∧ (Cond.eq (.length sB) (.int (Int32.ofNat 4))) ∈ flatC gvC := by decide +kernel
theorem fl1 : ∀ j, j < 4 → (Cond.eq (.elem sL (.int (Int32.ofNat j))) (.int ([104, 101, 110, 112].getD j 0))) ∈ flatC gvC := by decide +kernel
theorem fl2 : (Cond.arrayOf sL .char) ∈ flatC gvC ∧ (Cond.eq (.length sL) (.int (Int32.ofNat 4))) ∈ flatC gvC := by decide +kernel
theorem fs1 : ∀ i, i < 6 → (Cond.exactly (sK i) "java/lang/String") ∈ flatC gvC ∧ (Cond.eq (.field (sK i) "java/lang/String" "coder" "B") (.int 0)) ∈ flatC gvC ∧ (Cond.arrayOf (sV i) .byte) ∈ flatC gvC ∧ (Cond.eq (.length (sV i)) (.int (Int32.ofNat (strL.getD i 0)))) ∈ flatC gvC := by decide +kernel
theorem fs2 : ∀ i, i < 6 → ∀ j, j < strL.getD i 0 → (Cond.eq (.elem (sV i) (.int (Int32.ofNat j))) (.int ((strB.getD i []).getD j 0))) ∈ flatC gvC := by decide +kernel
theorem fs3 : ∀ i, i < 6 → ∀ j, j < 6 → i ≠ j → (Cond.not (Cond.eq (sK i) (sK j))) ∈ flatC gvC ∨ (Cond.not (Cond.eq (sK j) (sK i))) ∈ flatC gvC := by decide +kernel
theorem fz1 : (Cond.eq (.static "java/lang/String" "COMPACT_STRINGS" "Z") (.int 1)) ∈ flatC gvC ∧ (Cond.isRef (.static "jdk/internal/util/Preconditions" "SIOOBE_FORMATTER" "Ljava/util/function/BiFunction;")) ∈ flatC gvC := by decide +kernel
theorem ts1 : lw_tbl[514]? = some (Cond.laysStatic "FairTurns" "BURDENS" "[I") ∧ lw_tbl[571]? = some (Cond.laysStatic "FairTurns" "LETTERS" "[C") ∧ lw_tbl[1002]? = some (Cond.laysStatic "java/lang/String" "COMPACT_STRINGS" "Z") ∧ lw_tbl[1018]? = some (Cond.laysStatic "jdk/internal/util/Preconditions" "SIOOBE_FORMATTER" "Ljava/util/function/BiFunction;") := by decide +kernel
theorem ts2 : lw_tbl[513]? = some (Cond.fieldLinkNest "FairTurns$Book" 99 "FairTurns" "BURDENS" "[I" "FairTurns") ∧ lw_tbl[570]? = some (Cond.fieldLinkNest "FairTurns$Tape" 40 "FairTurns" "LETTERS" "[C" "FairTurns") ∧ lw_tbl[1136]? = some (Cond.fieldLinkNest "FairTurns$Paper" 52 "FairTurns" "LETTERS" "[C" "FairTurns") ∧ lw_tbl[430]? = some (Cond.methodLinkNest "FairTurns$Book" 86 ⟨"FairTurns", "isKind", "(I)Z"⟩ "FairTurns") ∧ lw_tbl[1135]? = some (Cond.methodLinkNest "FairTurns$Paper" 48 ⟨"FairTurns", "isKind", "(I)Z"⟩ "FairTurns") ∧ lw_tbl[128]? = some (Cond.methodLinkNest "FairTurns" 9 yX0_init "FairTurns") := by decide +kernel
theorem ts3 : ∀ i, i < 6 → lw_tbl[[988, 1041, 1042, 1043, 1044, 1045].getD i 0]? = some (Cond.stringRef "FairTurns$Condition" ((strI.map (fun q => q.1)).getD i 0) ((strI.map (fun q => q.2)).getD i "")) := by decide +kernel
theorem ts3m {i : Nat} (hi : i < 6) : (Cond.stringRef "FairTurns$Condition" ((strI.map (fun q => q.1)).getD i 0) ((strI.map (fun q => q.2)).getD i "")) ∈ lw_tbl := List.mem_of_getElem? (ts3 i hi)
theorem gs_start {s : State} {b : Nat} {A : Nat → Prop} (hts : ∀ w ∈ lw_tbl, w.before #[Value.ref b] s = true) (hgv : gvC.before #[Value.ref b] s = true) (hA : ∀ a : Nat, a < s.heap.size → ¬ A a) : ∃ f : Nat → Nat, ∀ G : GG, (∀ i, G.1 (NN + i) = f i) → gS G A s s.heap := by
  have hs := flat_of_before _ hgv
  have hT : ∀ w ∈ TB, w.before #[Value.ref b] s = true := fun w hw => hts w (List.mem_filter.mp hw).1
  have hm : ∀ {i : Nat} {w : Cond}, lw_tbl[i]? = some w → w.before #[Value.ref b] s = true := fun h => hts _ (List.mem_of_getElem? h)
  obtain ⟨t0, e0, T0⟩ := va_Tof (tm := sB) (ty := .int) (N := 4) (f := burF) (A := A) (by decide) (hs _ fb2.1) (va_eqt (hs _ fb2.2)) (fun j hj => va_eqt (hs _ (fb1 j hj))) hA
  obtain ⟨t1, e1, T1⟩ := va_Tof (tm := sL) (ty := .char) (N := 4) (f := letF) (A := A) (by decide) (hs _ fl2.1) (va_eqt (hs _ fl2.2)) (fun j hj => va_eqt (hs _ (fl1 j hj))) hA
  have Z0 := va_Zref (A := A) (hm ts1.1) (hT _ ti_FairTurns) e0 hA
  have Z1 := va_Zref (A := A) (hm ts1.2.1) (hT _ ti_FairTurns) e1 hA
  have Z2 := va_Zof (A := A) (hm ts1.2.2.1) (hT _ ti_java_lang_String) (va_eqi (hs _ fz1.1)) hA
  have Z3 := va_Zqof (A := A) (hm ts1.2.2.2) (hT _ ti_jdk_internal_util_Preconditions) (hs _ fz1.2) hA
  obtain ⟨aK, aV, hSt, hEv⟩ := vk_Sof (N := 6) (tm := sK) (len := strL) (byt := strB) (A := A) (by decide) (fun i hi => hs _ (fs1 i hi).1) (fun i hi => hs _ (fs1 i hi).2.1) (fun i hi => hs _ (fs1 i hi).2.2.1) (fun i hi => hs _ (fs1 i hi).2.2.2) (fun i hi j hj => hs _ (fs2 i hi j hj)) (fun i j hi hj hij => (fs3 i hi j hj hij).imp (hs _) (hs _)) hA
  obtain ⟨t14, Z4⟩ : ∃ t14 : Nat, va_Z "jdk/internal/util/Preconditions" "SIOOBE_FORMATTER" "Ljava/util/function/BiFunction;" .null A s s.heap ∨ va_Z "jdk/internal/util/Preconditions" "SIOOBE_FORMATTER" "Ljava/util/function/BiFunction;" (.ref t14) A s s.heap := by
    rcases Z3 with h | ⟨t, h⟩
    · exact ⟨0, Or.inl h⟩
    · exact ⟨t, Or.inr h⟩
  refine ⟨fun i => if i = 0 then t0 else if i = 1 then t1 else if i = 14 then t14 else if i < 8 then aK (i - 2) else aV (i - 8), fun G hG => ?_⟩
  have hG2 : ∀ i, G.1 (NN + i) = (if i = 0 then t0 else if i = 1 then t1 else if i = 14 then t14 else if i < 8 then aK (i - 2) else aV (i - 8)) := hG
  have g0 : G.1 NN = t0 := hG 0
  have g1 : G.1 (NN + 1) = t1 := hG 1
  have g14 : G.1 (NN + 14) = t14 := hG 14
  have gK : ∀ i, i < 6 → G.1 (NN + 2 + i) = aK i := fun i hi => by
    rw [show NN + 2 + i = NN + (i + 2) by omega, hG2 (i + 2), if_neg (by omega), if_neg (by omega), if_neg (by omega), if_pos (by omega), show i + 2 - 2 = i by omega]
  have gV : ∀ i, i < 6 → G.1 (NN + 8 + i) = aV i := fun i hi => by
    rw [show NN + 8 + i = NN + (i + 8) by omega, hG2 (i + 8), if_neg (by omega), if_neg (by omega), if_neg (by omega), if_neg (by omega), show i + 8 - 8 = i by omega]
  have hR : ∀ (i : Nat) (q : Nat × String), strI[i]? = some q → vk_R "FairTurns$Condition" q.1 q.2 (G.1 (NN + 2 + i)) s := by
    intro i q hq
    have hi : i < 6 := (List.getElem?_eq_some_iff.mp hq).1
    rw [gK i hi]
    have e1 : (strI.map (fun q => q.1)).getD i 0 = q.1 := by rw [List.getD_eq_getElem?_getD, List.getElem?_map, hq]; rfl
    have e2 : (strI.map (fun q => q.2)).getD i "" = q.2 := by rw [List.getD_eq_getElem?_getD, List.getElem?_map, hq]; rfl
    have h1 := hts _ (ts3m hi)
    have h2 := hEv i hi
    unfold sK at h2
    rw [e1, e2] at h1
    rw [e1] at h2
    exact vk_R.of h1 h2
  refine ⟨by rw [g0]; exact Z0, by rw [g0]; exact T0, by rw [g1]; exact Z1, by rw [g1]; exact T1, vkS_cong hSt gK gV, hR, Z2, by rw [g14]; exact Z4, fun q hq => ?_, fun q hq => ?_⟩
  · simp only [nestF, List.mem_cons, List.not_mem_nil, or_false] at hq
    rcases hq with rfl | rfl | rfl
    · exact va_Nw.of rfl (hm ts2.1)
    · exact va_Nw.of rfl (hm ts2.2.1)
    · exact va_Nw.of rfl (hm ts2.2.2.1)
  · simp only [nestM, List.mem_cons, List.not_mem_nil, or_false] at hq
    rcases hq with rfl | rfl
    · exact va_Nw.of rfl (hm ts2.2.2.2.1)
    · exact va_Nw.of rfl (hm ts2.2.2.2.2.1)
