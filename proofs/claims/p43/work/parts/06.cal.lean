/-! calls, returns, the method's entry -/
theorem TBm {m : Me} {w : Cond} (h : w ∈ TB) : w ∈ wsM m := List.mem_cons_of_mem _ h
theorem gA_in {G : GG} {sz k : Nat} (h : k < NN) : gA G sz (G.1 k) := Or.inl ⟨k, h, rfl⟩
/-- what a callee needs of the tables -/
def gCal (y : Me) : Prop := Cond.code y.1 y.2.1 y.2.2.1 y.2.2.2 ∈ TB ∧ Cond.initialized y.1.cls ∈ TB ∧ y.1.cls ≠ "java/lang/invoke/MethodHandle" ∧ y.1.cls ≠ "java/lang/invoke/VarHandle"
def gCalV (y : Me) (n : Nat) : Prop := gCal y ∧ Cond.instanceMethod y.1 ∈ TB ∧ Cond.selects y.1.cls y.1 y.1 ∈ TB ∧ (parseMethodDescriptor y.1.desc).map (fun q => q.parameters.length) = some n ∧ y.2.2.1 ≤ 21
def gCalS (y : Me) (n : Nat) : Prop := gCal y ∧ Cond.static y.1 ∈ TB ∧ (parseMethodDescriptor y.1.desc).map (fun q => q.parameters.length) = some n ∧ y.2.2.1 ≤ 21
theorem gGood {m y : Me} (hy : gCal y) : GoodIn (wsM m) (wsM y) := by
  intro w hw
  rcases List.mem_cons.mp hw with e | e
  · subst e
    exact ⟨TBm hy.1, good_of_word (TB_good _ hy.1)⟩
  · exact ⟨TBm e, good_of_word (TB_good _ e)⟩
theorem gBlind {G : GG} {sz : Nat} {M : Mm} {av : List Value} : FrameBlind (va_Pc av (fun U => gP G sz M U U.heap)) := by
  intro a U g mk ⟨h1, h2⟩
  exact ⟨h1, gP.same (u := U) (U := U.calling g mk a) rfl h2⟩
theorem goodIn_app4 {m : Me} {ws : List Cond} {a b c e : Cond} (h : GoodIn (wsM m) ws) (h1 : a ∈ TB) (h2 : b ∈ TB) (h3 : c ∈ TB) (h4 : e ∈ TB) : GoodIn (wsM m) (([a, b, c, e] : List Cond) ++ ws) := by
  intro w hw
  rcases List.mem_append.mp hw with hw | hw
  · have hT : w ∈ TB := by
      simp only [List.mem_cons, List.not_mem_nil, or_false] at hw
      rcases hw with e | e | e | e <;> subst e <;> assumption
    exact ⟨TBm hT, good_of_word (TB_good _ hT)⟩
  · exact h w hw
theorem goodIn_app3 {m : Me} {ws : List Cond} {a b c : Cond} (h : GoodIn (wsM m) ws) (h1 : a ∈ TB) (h2 : b ∈ TB) (h3 : c ∈ TB) : GoodIn (wsM m) (([a, b, c] : List Cond) ++ ws) := by
  intro w hw
  rcases List.mem_append.mp hw with hw | hw
  · have hT : w ∈ TB := by
      simp only [List.mem_cons, List.not_mem_nil, or_false] at hw
      rcases hw with e | e | e <;> subst e <;> assumption
    exact ⟨TBm hT, good_of_word (TB_good _ hT)⟩
  · exact h w hw
theorem g_nest {G : GG} {A : Nat → Prop} {s : State} {H : Heap} (h : gS G A s H) : gNe s := h.2.2.2.2.2.2.2.2
/-- the body goes on with a call's answer -/
def GoR (m : Me) (d : Nat) (Q : Po) (pc : Nat) (ls : Lv) (r : Option Value) (st : St) (M : Mm) : Prop := match r with
  | some v => Go m d Q pc ls (v :: st) M
  | none => Go m d Q pc ls st M
theorem GoR.to {m : Me} {d : Nat} {Q : Po} {pc : Nat} {ls : Lv} {r : Option Value} {st : St} {M : Mm} (h : GoR m d Q pc ls r st M) : Go m d Q pc ls (r.toList ++ st) M := by cases r <;> exact h
/-- behind a call that has run -/
theorem g_after {m : Me} {d : Nat} {Q : Po} {pc : Nat} {ls : Lv} {st st0 : St} {Qa : Po} {a : Array Value} {p : Program} {l : Launch} {e : Env} {s : State} {mi : MethodId} {args : Array Value} {below : List Frame} {meth : Method} {c : Code} {G : GG} {sz : Nat} (hF : gF m p s mi args meth c) (hS : gS G (gA G sz) s s.heap) (hz : sz ≤ s.heap.size) {H : Heap} {locs : List Loc} {arr : Array Slot} (hFr : va_S (gA G sz) s.heap H locs) (hl : lv_has arr m.2.2.1 (lvl G ls))
    (hr : va_Run p l e (rmd d) s mi args below meth c H locs 0 0 0 0 (F0 mi pc arr st0) (st.map (cv G)) (gQ G sz Qa a) (gA G sz))
    (kk : ∀ (M' : Mm) (r : Option Value), Qa M' r → Go m d Q (pc + 3) ls (r.toList ++ st) M') : W p l e (rmd d) s mi args below meth c H locs 0 0 (MQ below (gQ G sz Q) args s 0 0 (gA G sz)) (F0 mi pc arr st0) := by
  intro T hT X
  obtain ⟨v, st₀, t, T', L, h0, X', hL, e1, e2, ⟨⟨r, M', hv, hq, hP'⟩, hz1, hk1⟩, hst⟩ := hr T hT X
  cases hv
  rw [h0] at hz1 hk1
  have hal : s.vm.Alike t.vm := by rw [← e2]; exact X'.warmed.alike
  have hFr' : va_S (gA G sz) s.heap t.heap (locs ++ L) := by
    refine ⟨Nat.le_trans hFr.1 hz1, fun q h1 h2 => ?_, fun q hq => ?_⟩
    · rw [hk1 q (Nat.lt_of_lt_of_le h1 hFr.1) h2]; exact hFr.2.1 q h1 h2
    · rcases List.mem_append.mp hq with h | h
      · exact hFr.2.2 q h
      · exact hL q h
  have key := kk M' r hq p l e s mi args below meth c G sz hF (va_K.moved hal.symm hP'.2.2.1) hS hz t.heap (locs ++ L) arr hP'.2.1 hP'.2.2.2.1 hFr' hl T' e1 X'
  obtain ⟨t2, a1, b1⟩ := key
  refine ⟨t2, hst t2 ?_, b1⟩
  have hm : (r.map (cv G)).toList ++ st.map (cv G) = (r.toList ++ st).map (cv G) := by cases r <;> rfl
  show Steps p.tables e below (T'.setTop { (F0 mi pc arr st0) with pc := (F0 mi pc arr st0).pc + 3, stack := (r.map (cv G)).toList ++ st.map (cv G) }) t2
  rw [hm]
  exact a1
theorem rmd_ok (d : Nat) {n : Nat} (h : n ≤ 21) : (rmd d).frames + 1 ≤ (rmd (d + 1)).frames ∧ 8 + (n + 11) + (rmd d).locals ≤ (rmd (d + 1)).locals := by
  constructor
  · exact Nat.le_refl _
  · show 8 + (n + 11) + 40 * d ≤ 40 * (d + 1)
    omega
theorem g_callV {m y : Me} {d : Nat} {Q : Po} {pc : Nat} {ls : Lv} {st st0 : St} {M : Mm} (as : List Value) {k ci idx N : Nat} {C : String} {T : u_T} {fs : List (Option Nat)}
    (hd : decode m.2.1 pc = .ok (.invokevirtual idx, 3)) (hyV : gCalV y as.length) (hlk : Cond.methodLink m.1.cls idx y.1 ∈ TB)
    (hc : gCl ci C T N) (hC : C = y.1.cls) (hs : sh k = .inr (ci, fs)) (hk : k < NN) (hst : st0 = as.reverse ++ .ref k :: st) (hcat : (st.map fun v => v.category).sum ≤ 8)
    (kk : Call d y (.ref k :: as) M (fun M' r => GoR m (d + 1) Q (pc + 3) ls r st M')) : Go m (d + 1) Q pc ls st0 M := by
  intro p l e s mi args below meth c G sz hF hK hS hz H locs arr hP hD hFr hl
  obtain ⟨hy, hin, hsel, hn, hml⟩ := hyV
  have he := wl_get G M hk
  rw [hs] at he
  have hts := hF.2.2.2.2.2.1
  have hgS : ∀ U : State, U.heap = H → s.WarmedH U.vm → gP G sz M U U.heap := fun U hU hW => by
    rw [hU]
    exact ⟨Nat.le_trans hz hFr.1, hP, va_K.moved hW.alike hK, hD, (hS.kept hFr.2.1).warm hW⟩
  subst hC
  refine g_after (Qa := fun M' r => GoR m (d + 1) Q (pc + 3) ls r st M') (m := m) (st := st) (a := (Value.ref (G.1 k) :: as.map (cv G)).toArray) hF hS hz hFr hl
    (va_runV (As := as.map (cv G)) (b := G.1 k) (C := y.1.cls) ⟨hF.1, hF.2.1, hF.2.2.2.1, hF.2.2.2.2.1, hts⟩ (kk l G sz)
      (cwV (bytes := y.2.1) (maxL := y.2.2.1) (ret := y.2.2.2) (ws' := TB) as.length hts (goodIn_app4 (gGood hy) hlk hin hsel hy.2.1) rfl rfl rfl ⟨rfl, hy.2.2.1, hy.2.2.2, hn⟩ (rmd_ok d hml))
      ⟨gBlind, va_recv hK hP hc.1 he, fun U hU hW => ⟨rfl, hgS U hU hW⟩⟩ rfl (by simp) hl.1 ?_ ?_ hd ⟨Nat.le_refl _, Nat.le_refl _⟩) (fun M' r h => h.to)
  · rw [hst]; simp [cv]
  · refine lv_room ?_
    rw [List.map_map]
    have : ((fun v => v.category) ∘ cv G) = (fun v : Value => v.category) := by funext v; exact cv_cat G v
    rw [this]
    exact hcat
theorem g_callS {m y : Me} {d : Nat} {Q : Po} {pc : Nat} {ls : Lv} {st st0 : St} {M : Mm} (as : List Value) {idx : Nat}
    (hd : decode m.2.1 pc = .ok (.invokestatic idx, 3)) (hyS : gCalS y as.length) (hlk : Cond.methodLink m.1.cls idx y.1 ∈ TB) (hst : st0 = as.reverse ++ st) (hcat : (st.map fun v => v.category).sum ≤ 8)
    (kk : Call d y as M (fun M' r => GoR m (d + 1) Q (pc + 3) ls r st M')) : Go m (d + 1) Q pc ls st0 M := by
  intro p l e s mi args below meth c G sz hF hK hS hz H locs arr hP hD hFr hl
  obtain ⟨hy, hin, hn, hml⟩ := hyS
  have hts := hF.2.2.2.2.2.1
  have hgS : ∀ U : State, U.heap = H → s.WarmedH U.vm → gP G sz M U U.heap := fun U hU hW => by
    rw [hU]
    exact ⟨Nat.le_trans hz hFr.1, hP, va_K.moved hW.alike hK, hD, (hS.kept hFr.2.1).warm hW⟩
  refine g_after (Qa := fun M' r => GoR m (d + 1) Q (pc + 3) ls r st M') (m := m) (st := st) (a := (as.map (cv G)).toArray) hF hS hz hFr hl
    (va_runS (As := as.map (cv G)) ⟨hF.1, hF.2.1, hF.2.2.2.1, hF.2.2.2.2.1, hts⟩ (kk l G sz)
      (va_cwS (bytes := y.2.1) (maxL := y.2.2.1) (ret := y.2.2.2) (ws' := TB) as.length hts (goodIn_app3 (gGood hy) hlk hin hy.2.1) rfl rfl rfl ⟨hy.2.2.1, hy.2.2.2, hn⟩ (rmd_ok d hml))
      ⟨gBlind, fun U hU hW => ⟨rfl, hgS U hU hW⟩⟩ rfl (by simp) hl.1 ?_ ?_ hd ⟨Nat.le_refl _, Nat.le_refl _⟩) (fun M' r h => h.to)
  · rw [hst]; simp
  · refine lv_room ?_
    rw [List.map_map]
    have : ((fun v => v.category) ∘ cv G) = (fun v : Value => v.category) := by funext v; exact cv_cat G v
    rw [this]
    exact hcat
theorem g_callN {m y : Me} {d : Nat} {Q : Po} {pc : Nat} {ls : Lv} {st st0 : St} {M : Mm} (as : List Value) {idx : Nat} (host : String)
    (hd : decode m.2.1 pc = .ok (.invokestatic idx, 3)) (hyS : gCalS y as.length) (hlk : (m.1.cls, idx, y.1, host) ∈ nestM) (hst : st0 = as.reverse ++ st) (hcat : (st.map fun v => v.category).sum ≤ 8)
    (kk : Call d y as M (fun M' r => GoR m (d + 1) Q (pc + 3) ls r st M')) : Go m (d + 1) Q pc ls st0 M := by
  intro p l e s mi args below meth c G sz hF hK hS hz H locs arr hP hD hFr hl
  obtain ⟨hy, hin, hn, hml⟩ := hyS
  have hts := hF.2.2.2.2.2.1
  have h0 := (g_nest hS).2 _ hlk
  have hq : va_Nw (.methodLinkNest m.1.cls idx y.1 host) s := h0
  have hgS : ∀ U : State, U.heap = H → s.WarmedH U.vm → gP G sz M U U.heap := fun U hU hW => by
    rw [hU]
    exact ⟨Nat.le_trans hz hFr.1, hP, va_K.moved hW.alike hK, hD, (hS.kept hFr.2.1).warm hW⟩
  refine g_after (Qa := fun M' r => GoR m (d + 1) Q (pc + 3) ls r st M') (m := m) (st := st) (a := (as.map (cv G)).toArray) hF hS hz hFr hl
    (va_runSN (As := as.map (cv G)) (host := host) ⟨hF.1, hF.2.1, hF.2.2.2.1, hF.2.2.2.2.1, hts⟩ (kk l G sz)
      ⟨va_cnB (bytes := y.2.1) (maxL := y.2.2.1) (ret := y.2.2.2) (ws' := TB) as.length hts (gGood hy) rfl rfl rfl hq (hts _ (TBm hy.2.1)) ⟨hy.2.2.1, hy.2.2.2, hn⟩ (rmd_ok d hml), hts _ (TBm hin), trivial⟩
      ⟨gBlind, fun U hU hW => ⟨rfl, hgS U hU hW⟩⟩ rfl (by simp) hl.1 ?_ ?_ hd ⟨Nat.le_refl _, Nat.le_refl _⟩) (fun M' r h => h.to)
  · rw [hst]; simp
  · refine lv_room ?_
    rw [List.map_map]
    have : ((fun v => v.category) ∘ cv G) = (fun v : Value => v.category) := by funext v; exact cv_cat G v
    rw [this]
    exact hcat

theorem Call_of {m : Me} {d : Nat} {args : List Value} {M : Mm} {Q : Po} (ls : Lv) (hy : plainName m.1.cls = true) (hn : ∀ G : GG, (lg_sl (args.map (cv G))).length ≤ m.2.2.1) (hls : ∀ G : GG, lvl G ls = lv_args 0 (args.map (cv G))) (h : Go m d Q 0 ls [] M) : Call d m args M Q := by
  intro l G sz
  refine Met.ofW (cc := m.2.1) (maxL := m.2.2.1) (ret := m.2.2.2) hy rfl ?_
  intro p e s mi args' below meth c s₁ B hml hv
  obtain ⟨rfl, hP⟩ := hv
  have hts := atoms_spec (ws := wsM m) B.pre
  rw [lg_entry_eq]
  exact h p l e s mi _ below meth c G sz ⟨B.exec, B.bytes, B.returns, hml, findClass_of_methodNamed B.named, hts, B.notSynchronized⟩ hP.2.2.1 hP.2.2.2.2 hP.1 s.heap [] _ hP.2.1 hP.2.2.2.1 va_S.rf (by rw [hls]; exact lv_entry _ (hn G))
theorem gP_end {G : GG} {sz : Nat} {M : Mm} {s t : State} {H : Heap} {locs : List Loc} (hK : va_K (gD G) vwCl (gy G) s) (hS : gS G (gA G sz) s s.heap) (hz : sz ≤ s.heap.size) (hP : va_P (gD G) vwCl (wl G M) H) (hD : va_D (gA G sz) (wl G M)) (hFr : va_S (gA G sz) s.heap H locs) (ht : t.heap = H) (hW : s.WarmedH t.vm) : gP G sz M t t.heap := by
  rw [ht]
  exact ⟨Nat.le_trans hz hFr.1, hP, va_K.moved hW.alike hK, hD, (hS.kept hFr.2.1).warm hW⟩
theorem g_ireturn {m : Me} {d : Nat} {Q : Po} {pc : Nat} {ls : Lv} {M : Mm} {x : Int32} {ty : FieldType} (hd : decode m.2.1 pc = .ok (.ireturn, 1)) (hr : m.2.2.2 = some ty) (hn : narrow ty (.int x) = .int x) (h : Q M (some (.int x))) : Go m d Q pc ls [.int x] M := by
  intro p l e s mi args below meth c G sz hF hK hS hz H locs arr hP hD hFr hl
  exact W.zret hF.1 hF.2.1 (by rw [hF.2.2.1]; exact hr) hn (fun t ht hW => ⟨⟨some (.int x), M, rfl, h, gP_end hK hS hz hP hD hFr ht hW⟩, hFr.F ht⟩) hFr.2.2 hd hF.2.2.2.2.2.2
theorem g_lreturn {m : Me} {d : Nat} {Q : Po} {pc : Nat} {ls : Lv} {M : Mm} {x : Int64} (hd : decode m.2.1 pc = .ok (.lreturn, 1)) (hr : m.2.2.2 = some .long) (h : Q M (some (.long x))) : Go m d Q pc ls [.long x] M := by
  intro p l e s mi args below meth c G sz hF hK hS hz H locs arr hP hD hFr hl
  exact W.lret hF.1 hF.2.1 (by rw [hF.2.2.1]; exact hr) (fun t ht hW => ⟨⟨some (.long x), M, rfl, h, gP_end hK hS hz hP hD hFr ht hW⟩, hFr.F ht⟩) hFr.2.2 hd hF.2.2.2.2.2.2
theorem g_areturn {m : Me} {d : Nat} {Q : Po} {pc : Nat} {ls : Lv} {M : Mm} {x : Nat} {rt : FieldType} (hd : decode m.2.1 pc = .ok (.areturn, 1)) (hr : m.2.2.2 = some rt) (hrt : (∃ n, rt = .object n) ∨ ∃ t, rt = .array t) (h : Q M (some (.ref x))) : Go m d Q pc ls [.ref x] M := by
  intro p l e s mi args below meth c G sz hF hK hS hz H locs arr hP hD hFr hl
  exact W.aret (v := .ref (G.1 x)) hF.1 hF.2.1 (by rw [hF.2.2.1]; exact hr) hrt (Or.inr ⟨_, rfl⟩) (fun t ht hW => ⟨⟨some (.ref x), M, rfl, h, gP_end hK hS hz hP hD hFr ht hW⟩, hFr.F ht⟩) hFr.2.2 hd hF.2.2.2.2.2.2
theorem g_return {m : Me} {d : Nat} {Q : Po} {pc : Nat} {ls : Lv} {M : Mm} (hd : decode m.2.1 pc = .ok (.return_, 1)) (hr : m.2.2.2 = none) (h : Q M none) : Go m d Q pc ls [] M := by
  intro p l e s mi args below meth c G sz hF hK hS hz H locs arr hP hD hFr hl
  exact W.vret hF.1 hF.2.1 (by rw [hF.2.2.1]; exact hr) (fun t ht hW => ⟨⟨none, M, rfl, h, gP_end hK hS hz hP hD hFr ht hW⟩, hFr.F ht⟩) hFr.2.2 hd hF.2.2.2.2.2.2
theorem g_burdens {m : Me} {d : Nat} {Q : Po} {pc : Nat} {ls : Lv} {st : St} {M : Mm} {idx : Nat} (hd : decode m.2.1 pc = .ok (.getstatic idx, 3)) (hlk : (m.1.cls, idx, "FairTurns", "BURDENS", "[I", "FairTurns") ∈ nestF) (kk : Go m d Q (pc + 3) ls (.ref NN :: st) M) : Go m d Q pc ls st M := by
  intro p l e s mi args below meth c G sz hF hK hS hz H locs arr hP hD hFr hl
  have h0 := (g_nest hS).1 _ hlk
  have hq : va_Nw (.fieldLinkNest m.1.cls idx "FairTurns" "BURDENS" "[I" "FairTurns") s := h0
  exact va_getsN hF.1 hF.2.1 hS.1 hFr hF.2.2.2.2.1 (va_Nw.use rfl hq) (fun _ h => h) hd (kk p l e s mi args below meth c G sz hF hK hS hz H locs arr hP hD hFr hl)
theorem g_letters {m : Me} {d : Nat} {Q : Po} {pc : Nat} {ls : Lv} {st : St} {M : Mm} {idx : Nat} (hd : decode m.2.1 pc = .ok (.getstatic idx, 3)) (hlk : (m.1.cls, idx, "FairTurns", "LETTERS", "[C", "FairTurns") ∈ nestF) (kk : Go m d Q (pc + 3) ls (.ref (NN + 1) :: st) M) : Go m d Q pc ls st M := by
  intro p l e s mi args below meth c G sz hF hK hS hz H locs arr hP hD hFr hl
  have h0 := (g_nest hS).1 _ hlk
  have hq : va_Nw (.fieldLinkNest m.1.cls idx "FairTurns" "LETTERS" "[C" "FairTurns") s := h0
  exact va_getsN hF.1 hF.2.1 hS.2.2.1 hFr hF.2.2.2.2.1 (va_Nw.use rfl hq) (fun _ h => h) hd (kk p l e s mi args below meth c G sz hF hK hS hz H locs arr hP hD hFr hl)
theorem g_burAt {m : Me} {d : Nat} {Q : Po} {pc : Nat} {ls : Lv} {st : St} {M : Mm} {j : Nat} (v : Int32) (hd : decode m.2.1 pc = .ok (.iaload, 1)) (hj : j < 4) (hv : ([5, 3, 2, 1] : List Int32).getD j 0 = v) (kk : Go m d Q (pc + 1) ls (.int v :: st) M) : Go m d Q pc ls (.int (nI j) :: .ref NN :: st) M := by
  intro p l e s mi args below meth c G sz hF hK hS hz H locs arr hP hD hFr hl
  exact va_ti (v := .int v) hF.1 hF.2.1 hS.2.1 hFr (nI_in hj (by decide)) (by rw [nI_clamp (by omega)]; unfold burF; rw [hv]) hd (kk p l e s mi args below meth c G sz hF hK hS hz H locs arr hP hD hFr hl)
theorem g_letAt {m : Me} {d : Nat} {Q : Po} {pc : Nat} {ls : Lv} {st : St} {M : Mm} {j : Nat} (v : Int32) (hd : decode m.2.1 pc = .ok (.caload, 1)) (hj : j < 4) (hv : ([104, 101, 110, 112] : List Int32).getD j 0 = v) (kk : Go m d Q (pc + 1) ls (.int v :: st) M) : Go m d Q pc ls (.int (nI j) :: .ref (NN + 1) :: st) M := by
  intro p l e s mi args below meth c G sz hF hK hS hz H locs arr hP hD hFr hl
  exact va_tc (v := .int v) hF.1 hF.2.1 hS.2.2.2.1 hFr (nI_in hj (by decide)) (by rw [nI_clamp (by omega)]; unfold letF; rw [hv]) hd (kk p l e s mi args below meth c G sz hF hK hS hz H locs arr hP hD hFr hl)
theorem g_alen {m : Me} {d : Nat} {Q : Po} {pc : Nat} {ls : Lv} {st : St} {M : Mm} {k n : Nat} {b : Bool} (hd : decode m.2.1 pc = .ok (.arraylength, 1)) (hs : sh k = .inl (b, n)) (hk : k < NN) (kk : Go m d Q (pc + 1) ls (.int (nI n) :: st) M) : Go m d Q pc ls (.ref k :: st) M := by
  intro p l e s mi args below meth c G sz hF hK hS hz H locs arr hP hD hFr hl
  have he := wl_get G M hk
  rw [hs] at he
  cases b with
  | false => exact va_alen (D := gD G) hF.1 hF.2.1 hK hP k 0 (cA := G.2.2.2.1) (x := (n, .inl (M k))) he (ty := .int) rfl rfl hd (kk p l e s mi args below meth c G sz hF hK hS hz H locs arr hP hD hFr hl)
  | true => exact va_alen (D := gD G) hF.1 hF.2.1 hK hP k 1 (cA := G.2.2.2.2) (x := (n, .inl (M k))) he (ty := .boolean) rfl rfl hd (kk p l e s mi args below meth c G sz hF hK hS hz H locs arr hP hD hFr hl)
theorem g_lenL {m : Me} {d : Nat} {Q : Po} {pc : Nat} {ls : Lv} {st : St} {M : Mm} (hd : decode m.2.1 pc = .ok (.arraylength, 1)) (kk : Go m d Q (pc + 1) ls (.int (nI 4) :: st) M) : Go m d Q pc ls (.ref (NN + 1) :: st) M := by
  intro p l e s mi args below meth c G sz hF hK hS hz H locs arr hP hD hFr hl
  exact va_tlen hF.1 hF.2.1 hS.2.2.2.1 hFr rfl hd (kk p l e s mi args below meth c G sz hF hK hS hz H locs arr hP hD hFr hl)
theorem cat_map {G : GG} (st : St) : ((st.map (cv G)).map fun v => v.category).sum = (st.map fun v => v.category).sum := by
  rw [List.map_map]
  have : ((fun v => v.category) ∘ cv G) = (fun v : Value => v.category) := by funext v; exact cv_cat G v
  rw [this]
theorem g_mmin {m : Me} {d : Nat} {Q : Po} {pc : Nat} {ls : Lv} {st : St} {M : Mm} {idx : Nat} {x y : Int32} (hd : decode m.2.1 pc = .ok (.invokestatic idx, 3)) (h1 : Cond.methodLink m.1.cls idx Lib.Math.min.name ∈ TB) (h2 : Cond.static Lib.Math.min.name ∈ TB) (h3 : Cond.initialized "java/lang/Math" ∈ TB) (h4 : Cond.code Lib.Math.min.name Lib.Math.min.code 2 (some .int) ∈ TB) (hcat : (st.map fun v => v.category).sum ≤ 8) (kk : Go m (d + 1) Q (pc + 3) ls (.int (if y < x then y else x) :: st) M) : Go m (d + 1) Q pc ls (.int y :: .int x :: st) M := by
  intro p l e s mi args below meth c G sz hF hK hS hz H locs arr hP hD hFr hl
  have hts := hF.2.2.2.2.2.1
  exact va_mmin hF.1 hF.2.1 (hF.2.2.2.1.trans hl.1.symm) hF.2.2.2.2.1 (hts _ (TBm h1)) (hts _ (TBm h2)) (hts _ (TBm h3)) (hts _ (TBm h4)) (Nat.le_add_left 1 d) (by rw [cat_map]; show _ ≤ 40 * (d + 1); omega) (Nat.le_refl _) (Nat.le_refl _) hd (kk p l e s mi args below meth c G sz hF hK hS hz H locs arr hP hD hFr hl)
theorem g_mmax {m : Me} {d : Nat} {Q : Po} {pc : Nat} {ls : Lv} {st : St} {M : Mm} {idx : Nat} {x y : Int32} (hd : decode m.2.1 pc = .ok (.invokestatic idx, 3)) (h1 : Cond.methodLink m.1.cls idx Lib.Math.max.name ∈ TB) (h2 : Cond.static Lib.Math.max.name ∈ TB) (h3 : Cond.initialized "java/lang/Math" ∈ TB) (h4 : Cond.code Lib.Math.max.name Lib.Math.max.code 2 (some .int) ∈ TB) (hcat : (st.map fun v => v.category).sum ≤ 8) (kk : Go m (d + 1) Q (pc + 3) ls (.int (if x < y then y else x) :: st) M) : Go m (d + 1) Q pc ls (.int y :: .int x :: st) M := by
  intro p l e s mi args below meth c G sz hF hK hS hz H locs arr hP hD hFr hl
  have hts := hF.2.2.2.2.2.1
  exact va_mmax hF.1 hF.2.1 (hF.2.2.2.1.trans hl.1.symm) hF.2.2.2.2.1 (hts _ (TBm h1)) (hts _ (TBm h2)) (hts _ (TBm h3)) (hts _ (TBm h4)) (Nat.le_add_left 1 d) (by rw [cat_map]; show _ ≤ 40 * (d + 1); omega) (Nat.le_refl _) (Nat.le_refl _) hd (kk p l e s mi args below meth c G sz hF hK hS hz H locs arr hP hD hFr hl)
theorem g_mabs {m : Me} {d : Nat} {Q : Po} {pc : Nat} {ls : Lv} {st : St} {M : Mm} {idx : Nat} {x : Int32} (hd : decode m.2.1 pc = .ok (.invokestatic idx, 3)) (h1 : Cond.methodLink m.1.cls idx Lib.Math.abs.name ∈ TB) (h2 : Cond.static Lib.Math.abs.name ∈ TB) (h3 : Cond.initialized "java/lang/Math" ∈ TB) (h4 : Cond.code Lib.Math.abs.name Lib.Math.abs.code 1 (some .int) ∈ TB) (hcat : (st.map fun v => v.category).sum ≤ 8) (kk : Go m (d + 1) Q (pc + 3) ls (.int (if 0 ≤ x then x else 0 - x) :: st) M) : Go m (d + 1) Q pc ls (.int x :: st) M := by
  intro p l e s mi args below meth c G sz hF hK hS hz H locs arr hP hD hFr hl
  have hts := hF.2.2.2.2.2.1
  exact va_mabs hF.1 hF.2.1 (hF.2.2.2.1.trans hl.1.symm) hF.2.2.2.2.1 (hts _ (TBm h1)) (hts _ (TBm h2)) (hts _ (TBm h3)) (hts _ (TBm h4)) (Nat.le_add_left 1 d) (by rw [cat_map]; show _ ≤ 40 * (d + 1); omega) (Nat.le_refl _) (Nat.le_refl _) hd (kk p l e s mi args below meth c G sz hF hK hS hz H locs arr hP hD hFr hl)
