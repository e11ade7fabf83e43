/-! THE LAW: its rows, over the flat world -/
abbrev mLw : Me := (yL_law, cL_law, 4, ret)
def lwX (G : GG) (b L : Nat) (xs : Nat → Int32) (p : Program) (s : State) (mi : MethodId) (meth : Method) (c : Code) : Prop := zC mLw (gD G) G.2.2.2.1 G.2.2.2.2 (gA G s.heap.size) p s mi #[Value.ref b] meth c ∧ gS G (gA G s.heap.size) s s.heap ∧ va_X b L xs s s.heap ∧ b < s.heap.size ∧ ¬ gA G s.heap.size b ∧ L ≤ 2048 ∧ ∀ k, k < NN → s.heap.size ≤ G.1 k
abbrev lwl (G : GG) (b i : Nat) : List (Nat × Value) := [(3, .int (nI i)), (2, .ref (G.1 57)), (1, .ref (G.1 0)), (0, .ref b)]
def Lz (G : GG) (b : Nat) (p : Program) (l : Launch) (e : Env) (s : State) (mi : MethodId) (below : List Frame) (meth : Method) (c : Code) (Q : State → Prop) (i pc : Nat) (st : List Value) (M : Mm) : Prop := Mz mLw room_1 (gD G) (gA G s.heap.size) p l e s mi #[Value.ref b] below meth c Q pc (lwl G b i) st (wl G M) 77 4084
theorem catr {G : GG} (r : Option Value) : (((r.map (cv G)).toList.map fun v => v.category).sum) ≤ 8 := by
  cases r with
  | none => exact Nat.zero_le _
  | some v => cases v <;> exact Nat.le_of_ble_eq_true rfl
theorem goodIn_tb4 {y : Me} {a b c e : Cond} (h : GoodIn TB (wsM y)) (h1 : a ∈ TB) (h2 : b ∈ TB) (h3 : c ∈ TB) (h4 : e ∈ TB) : GoodIn TB (([a, b, c, e] : List Cond) ++ wsM y) := by
  intro w hw
  rcases List.mem_append.mp hw with hw | hw
  · have hT : w ∈ TB := by
      simp only [List.mem_cons, List.not_mem_nil, or_false] at hw
      rcases hw with e | e | e | e <;> subst e <;> assumption
    exact ⟨hT, good_of_word (TB_good _ hT)⟩
  · exact h w hw
theorem lgc_rf (v : Int64) : lg_cmp v v = 0 := by
  unfold lg_cmp
  rw [if_neg (show ¬ v > v from Int64.lt_irrefl), if_pos rfl]
theorem and63 (v : Int32) : ∃ j : Nat, j < 64 ∧ v &&& nI 63 = nI j := by
  have h1 : (v &&& nI 63).toBitVec.toNat ≤ 63 := by
    rw [Int32.toBitVec_and, BitVec.toNat_and]
    exact Nat.and_le_right
  refine ⟨(v &&& nI 63).toBitVec.toNat, by omega, ?_⟩
  rw [← Int32.toBitVec_inj]
  show _ = (Int32.ofNat _).toBitVec
  rw [Int32.toBitVec_ofNat', BitVec.ofNat_toNat, BitVec.setWidth_eq]
section LWZ
variable {G : GG} {b L : Nat} {xs : Nat → Int32} {p : Program} {l : Launch} {e : Env} {s : State} {mi : MethodId} {below : List Frame} {meth : Method} {c : Code} {Q : State → Prop} {i pc : Nat} {st : List Value} {M : Mm}
theorem lz_ref1 (C : lwX G b L xs p s mi meth c) (hd : decode cL_law pc = .ok (.aload_n 1, 1)) (kk : Lz G b p l e s mi below meth c Q i (pc + 1) (.ref (G.1 0) :: st) M) : Lz G b p l e s mi below meth c Q i pc st M := mz_aload (m := mLw) C.1 2 hd rfl kk
theorem lz_ref2 (C : lwX G b L xs p s mi meth c) (hd : decode cL_law pc = .ok (.aload_n 2, 1)) (kk : Lz G b p l e s mi below meth c Q i (pc + 1) (.ref (G.1 57) :: st) M) : Lz G b p l e s mi below meth c Q i pc st M := mz_aload (m := mLw) C.1 1 hd rfl kk
theorem lz_arg (C : lwX G b L xs p s mi meth c) (d : Nat) {z : Int} (h0 : decode cL_law pc = .ok (.aload_n 0, 1)) (h1 : decode cL_law (pc + 1) = .ok (.iload_n 3, 1)) (h2 : decode cL_law (pc + 1 + 1) = .ok (.iconst z, 1)) (h3 : decode cL_law (pc + 1 + 1 + 1) = .ok (.iadd, 1)) (h4 : decode cL_law (pc + 1 + 1 + 1 + 1) = .ok (.iaload, 1)) (hz : Int32.ofInt z = nI d) (hi : i + d < L) (kk : Lz G b p l e s mi below meth c Q i (pc + 5) (.int (xs (i + d)) :: st) M) : Lz G b p l e s mi below meth c Q i pc st M := by
  intro H locs arr hP hD hS hl
  have hL := C.2.2.2.2.2.1
  refine lv_aload_n C.1.1.1 C.1.1.2.1 h0 rfl (lv_at hl 3 rfl) ?_
  refine lv_iload_n C.1.1.1 C.1.1.2.1 h1 rfl (lv_at hl 0 rfl) ?_
  refine lv_iconst (v := nI d) C.1.1.1 C.1.1.2.1 h2 hz ?_
  refine lv_iadd C.1.1.1 C.1.1.2.1 h3 ?_
  rw [nI_add]
  refine va_sld C.1.1.1 C.1.1.2.1 C.2.2.1 C.2.2.2.1 C.2.2.2.2.1 hS (i := nI (i + d)) (nI_in hi (by omega)) h4 ?_
  rw [nI_clamp (by omega)]
  exact kk H locs arr hP hD hS hl
theorem lz_call (C : lwX G b L xs p s mi meth c) {y : Me} {as st0 : List Value} {r0 idx ci N : Nat} {T : u_T} {fs : List (Option Nat)} {Qx : Po} (hd : decode cL_law pc = .ok (.invokevirtual idx, 3)) (hyV : gCalV y as.length) (hlk : Cond.methodLink "FairTurnsLaw" idx y.1 ∈ TB) (hc : gCl ci y.1.cls T N) (hs : sh r0 = .inr (ci, fs)) (hr : r0 < NN) (has : as.map (cv G) = as) (hst : st0 = as.reverse ++ .ref (G.1 r0) :: st) (hcat : (st.map fun v => v.category).sum ≤ 8) (hcall : Call 60 y (.ref r0 :: as) M Qx) (kk : ∀ M' r, Qx M' r → Lz G b p l e s mi below meth c Q i (pc + 3) ((r.map (cv G)).toList ++ st) M') : Lz G b p l e s mi below meth c Q i pc st0 M := by
  intro H locs arr hP hD hS hl
  obtain ⟨hy, hin, hsel, hn, hml⟩ := hyV
  have he := wl_get G M hr
  rw [hs] at he
  have hts := C.1.1.2.2.2.2.2.1
  have hgS : ∀ U : State, U.heap = H → s.WarmedH U.vm → gP G s.heap.size M U U.heap := fun U hU hW => by
    rw [hU]
    exact ⟨hS.1, hP, va_K.moved hW.alike C.1.2.1, hD, (C.2.1.kept hS.2.1).warm hW⟩
  subst hst
  have hav : (Value.ref (G.1 r0) :: as).toArray = ((Value.ref r0 :: as).map (cv G)).toArray := by
    rw [List.map_cons, has]
    rfl
  have hrun := va_runV (locs := locs) (cells := 77) (slots := 4084) (below := below) (meth := meth) (e := e) (R := room_1) (As := as) (b := G.1 r0) (rest := st) (C := y.1.cls) (own := "FairTurnsLaw") (g := F0 mi pc arr (as.reverse ++ .ref (G.1 r0) :: st)) ⟨C.1.1.1, C.1.1.2.1, C.1.1.2.2.2.1, C.1.1.2.2.2.2.1, hts⟩ (hcall l G s.heap.size)
    (cwV (bytes := y.2.1) (maxL := y.2.2.1) (ret := y.2.2.2) (ws' := TB) as.length hts (goodIn_tb4 (gGood2 hy) hlk hin hsel hy.2.1) rfl rfl rfl ⟨rfl, hy.2.2.1, hy.2.2.2, hn⟩ ⟨Nat.le_of_ble_eq_true rfl, by show 8 + (y.2.2.1 + 11) + 40 * 60 ≤ 84000; omega⟩)
    ⟨gBlind, va_recv C.1.2.1 hP hc.1 he, fun U hU hW => ⟨hav, hgS U hU hW⟩⟩ rfl rfl hl.1 rfl (lv_room hcat) hd ⟨Nat.le_of_ble_eq_true rfl, Nat.le_of_ble_eq_true rfl⟩
  intro Ts hT X
  obtain ⟨v, st₀, t, T', Lc, h0, X', hLc, e1, e2, ⟨⟨r, M', hv, hq, hP'⟩, hz1, hk1⟩, hst⟩ := hrun Ts hT X
  cases hv
  rw [h0] at hz1 hk1
  have hFr' : va_S (gA G s.heap.size) s.heap t.heap (locs ++ Lc) := by
    refine ⟨Nat.le_trans hS.1 hz1, fun q h1 h2 => ?_, fun q hq => ?_⟩
    · rw [hk1 q (Nat.lt_of_lt_of_le h1 hS.1) h2]; exact hS.2.1 q h1 h2
    · rcases List.mem_append.mp hq with h | h
      · exact hS.2.2 q h
      · exact hLc q h
  obtain ⟨t2, a1, b1⟩ := kk M' r hq t.heap (locs ++ Lc) arr hP'.2.1 hP'.2.2.2.1 hFr' hl T' e1 X'
  exact ⟨t2, hst t2 a1, b1⟩
theorem lz_eq (C : lwX G b L xs p s mi meth c) {v : Int32} {off : Int} {st0 : List Value} (tgt : Nat) (hd : decode cL_law pc = .ok (.if_icmp .eq off, 3)) (ht : (pc : Int) + off = (tgt : Int)) (hst : st0 = [.int v, .int v]) (kk : Lz G b p l e s mi below meth c Q i tgt [] M) : Lz G b p l e s mi below meth c Q i pc st0 M := by
  subst hst
  exact fun H locs arr hP hD hS hl => lv_icmp_eq (tgt := tgt) C.1.1.1 C.1.1.2.1 hd ht (fun _ => kk H locs arr hP hD hS hl) (fun q => absurd rfl q)
theorem lz_eql (C : lwX G b L xs p s mi meth c) {v : Int64} {off : Int} {st0 : List Value} (tgt : Nat) (hd : decode cL_law pc = .ok (.lcmp, 1)) (hd2 : decode cL_law (pc + 1) = .ok (.ifCond .eq off, 3)) (ht : ((pc + 1 : Nat) : Int) + off = (tgt : Int)) (hst : st0 = [.long v, .long v]) (kk : Lz G b p l e s mi below meth c Q i tgt [] M) : Lz G b p l e s mi below meth c Q i pc st0 M := by
  subst hst
  intro H locs arr hP hD hS hl
  refine W.lcmp C.1.1.1 C.1.1.2.1 hd ?_
  rw [lgc_rf]
  exact lv_if_eq (tgt := tgt) C.1.1.1 C.1.1.2.1 hd2 ht (fun _ => kk H locs arr hP hD hS hl) (fun q => absurd rfl q)
theorem lz_head (C : lwX G b L xs p s mi meth c) (hi : i ≤ 4096) (ke : Lz G b p l e s mi below meth c Q i 1238 [] M) (kg : i + 4 ≤ L → Lz G b p l e s mi below meth c Q i 26 [] M) : Lz G b p l e s mi below meth c Q i 18 [] M := by
  intro H locs arr hP hD hS hl
  have hL := C.2.2.2.2.2.1
  refine lv_iload_n C.1.1.1 C.1.1.2.1 dL_law_18 rfl (lv_at hl 0 rfl) ?_
  refine lv_aload_n C.1.1.1 C.1.1.2.1 dL_law_19 rfl (lv_at hl 3 rfl) ?_
  refine va_slen C.1.1.1 C.1.1.2.1 C.2.2.1 C.2.2.2.1 C.2.2.2.2.1 hS dL_law_20 ?_
  refine lv_iconst (v := nI 4) C.1.1.1 C.1.1.2.1 dL_law_21 ki_4 ?_
  refine lv_isub C.1.1.1 C.1.1.2.1 dL_law_22 ?_
  refine lv_icmp_gt (tgt := 1238) C.1.1.1 C.1.1.2.1 dL_law_23 (by decide) (fun _ => ke H locs arr hP hD hS hl) (fun q => kg ?_ H locs arr hP hD hS hl)
  have h2 := Int32.le_iff_toInt_le.mp (Int32.not_lt.mp q)
  rw [show Int32.ofNat L = nI L from rfl, Int32.toInt_sub, nI_toInt (by omega), nI_toInt (by omega), nI_toInt (by omega), Int.bmod_def] at h2
  split at h2 <;> omega
def lwO : List Int := [184, 207, 230, 273, 306, 329, 352, 375, 408, 421, 454, 477, 510, 553, 586, 609, 632, 665, 698, 721, 734, 757, 780, 793, 826, 859, 872, 885, 908, 921, 934, 947, 960, 973, 986, 1009, 1032, 1065, 1108, 1141, 1174, 1187]
def lwT (j : Nat) : Nat := ((32 : Int) + lwO.getD j 0).toNat
theorem lwT_ok : ∀ j, j < 42 → (lwO.toArray)[j]? = some (lwO.getD j 0) ∧ ((32 : Nat) : Int) + lwO.getD j 0 = ((lwT j : Nat) : Int) := by decide +kernel
theorem dLt : decode cL_law 32 = .ok (.tableswitch 1200 0 41 lwO.toArray, 184) := dL_law_32
theorem lz_key (C : lwX G b L xs p s mi meth c) (hi : i + 4 ≤ L) (kt : ∀ j, j < 42 → Lz G b p l e s mi below meth c Q i (lwT j) [] M) (ko : Lz G b p l e s mi below meth c Q i 1232 [] M) : Lz G b p l e s mi below meth c Q i 26 [] M := by
  intro H locs arr hP hD hS hl
  have hL := C.2.2.2.2.2.1
  refine lv_aload_n C.1.1.1 C.1.1.2.1 dL_law_26 rfl (lv_at hl 3 rfl) ?_
  refine lv_iload_n C.1.1.1 C.1.1.2.1 dL_law_27 rfl (lv_at hl 0 rfl) ?_
  refine va_sld C.1.1.1 C.1.1.2.1 C.2.2.1 C.2.2.2.1 C.2.2.2.2.1 hS (i := nI i) (nI_in (show i < L by omega) (by omega)) dL_law_28 ?_
  refine lv_bipush (v := nI 63) C.1.1.1 C.1.1.2.1 dL_law_29 (by decide +kernel) ?_
  refine lv_iand C.1.1.1 C.1.1.2.1 dL_law_31 ?_
  obtain ⟨j, hj, ej⟩ := and63 (xs (nI i).toNatClampNeg)
  rw [ej]
  have ev : (nI j).toInt = (j : Int) := nI_toInt (by omega)
  by_cases hj2 : j < 42
  · obtain ⟨o1, o2⟩ := lwT_ok j hj2
    refine lv_tableIn (off := lwO.getD j 0) (tgt := lwT j) C.1.1.1 C.1.1.2.1 dLt (by rw [ev]; omega) (by rw [ev]; omega) ?_ o2 (kt j hj2 H locs arr hP hD hS hl)
    rw [ev, show ((j : Int) - 0).toNat = j by omega]
    exact o1
  · exact lv_tableOut (tgt := 1232) C.1.1.1 C.1.1.2.1 dLt (Or.inr (by rw [ev]; omega)) (by decide) (ko H locs arr hP hD hS hl)
theorem lz_next (C : lwX G b L xs p s mi meth c) (kk : Lz G b p l e s mi below meth c Q (i + 4) 18 [] M) : Lz G b p l e s mi below meth c Q i 1232 [] M :=
  mz_iinc (m := mLw) (lt := lwl G b (i + 4)) C.1 (nI (i + 4)) 0 dL_law_1232 rfl (by rw [show Int32.ofInt 4 = nI 4 from ki_4, nI_add]) (Nat.le_of_ble_eq_true rfl) rfl (mz_goto (m := mLw) C.1 18 dL_law_1235 (by decide) kk)
theorem lz_exit (C : lwX G b L xs p s mi meth c) : Lz G b p l e s mi below meth c (lw_Z below #[Value.ref b] s) i 1238 [] M := by
  intro H locs arr hP hD hS hl
  have hge : ∀ q, gA G s.heap.size q → s.heap.size ≤ q := by
    intro q hq
    rcases hq with ⟨k, hk, rfl⟩ | hq
    · exact C.2.2.2.2.2.2 k hk
    · exact hq
  refine lv_iconst (v := 1) C.1.1.1 C.1.1.2.1 dL_law_1238 (by decide) ?_
  refine va_forget (fun q hq => hge _ (hS.2.2 q hq)) ?_
  refine W.widen (k := 600000) (n := 7302250) (Nat.le_of_ble_eq_true rfl) (Nat.le_of_ble_eq_true rfl) ?_
  exact lw_ret C.1.1.1 C.1.1.2.1 C.1.1.2.2.1 C.1.1.2.2.2.2.2.2 dL_law_1239
theorem lz_pop (C : lwX G b L xs p s mi meth c) {v : Int32} {st0 : List Value} (hd : decode cL_law pc = .ok (.pop, 1)) (hst : st0 = [.int v]) (kk : Lz G b p l e s mi below meth c Q i (pc + 1) [] M) : Lz G b p l e s mi below meth c Q i pc st0 M := by
  subst hst
  exact fun H locs arr hP hD hS hl => lv_pop C.1.1.1 C.1.1.2.1 hd rfl (kk H locs arr hP hD hS hl)
theorem lz_popl (C : lwX G b L xs p s mi meth c) {v : Int64} {st0 : List Value} (hd : decode cL_law pc = .ok (.pop2, 1)) (hst : st0 = [.long v]) (kk : Lz G b p l e s mi below meth c Q i (pc + 1) [] M) : Lz G b p l e s mi below meth c Q i pc st0 M := by
  subst hst
  exact fun H locs arr hP hD hS hl => lv_pop2_2 C.1.1.1 C.1.1.2.1 hd rfl (kk H locs arr hP hD hS hl)
theorem lz_end (C : lwX G b L xs p s mi meth c) {off : Int} (hd : decode cL_law pc = .ok (.goto off, 3)) (ht : (pc : Int) + off = ((1232 : Nat) : Int)) (kk : Lz G b p l e s mi below meth c Q i 1232 [] M) : Lz G b p l e s mi below meth c Q i pc [] M := mz_goto (m := mLw) C.1 1232 hd ht kk
end LWZ
