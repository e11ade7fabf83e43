abbrev vwCl : List vw_C := [(RX0, TX0, 15), (RX1, TX1, 3), (RX2, TX2, 4), (RX3, TX3, 2), (RX4, TX4, 7), (RX5, TX5, 10), (RX6, TX6, 2), (RX7, TX7, 4), (RX8, TX8, 9), (RX9, TX9, 11), (RX10, TX10, 34)]
/-! THE FLAT WORLD: all cells that the two constructors make, by places; ints in a memory of places and slots, references never change. -/
abbrev Me : Type := MethodName × ByteArray × Nat × Option FieldType
abbrev Mm : Type := Nat → Nat → Int32
abbrev GG : Type := (Nat → Nat) × (Nat → ClassId) × (Nat → Nat → Nat) × ClassId × ClassId
abbrev Sh : Type := (Bool × Nat) ⊕ (Nat × List (Option Nat))
abbrev St : Type := List Value
abbrev Lv : Type := List (Option Value)
abbrev Po : Type := Mm → Option Value → Prop
def mset (M : Mm) (k j : Nat) (v : Int32) : Mm := fun a => if a = k then upd (M k) j v else M a
theorem mset_same (M : Mm) (k j : Nat) (v : Int32) : mset M k j v k = upd (M k) j v := if_pos rfl
theorem mset_ne {M : Mm} {k j : Nat} {v : Int32} {a : Nat} (h : a ≠ k) : mset M k j v a = M a := if_neg h
def fEnt (G : GG) (M : Mm) (k : Nat) (fs : List (Option Nat)) : List Value := fs.mapIdx (fun j f => match f with
  | none => .int (M k j)
  | some r => .ref (G.1 r))
def sEnt (G : GG) (M : Mm) (k : Nat) : Sh → va_E
  | .inl (b, n) => .inl (if b = true then G.2.2.2.2 else G.2.2.2.1, (n, .inl (M k)))
  | .inr (ci, fs) => .inr (ci, fEnt G M k fs)
def shapes : List Sh := [.inr (9, [some 1, some 14, none, some 27, some 31, some 35, some 41, some 43, some 50, some 52, some 54]), .inr (0, [none, none, none, some 2, some 3, some 4, some 5, some 6, some 7, some 8, some 9, some 10, some 11, some 12, some 13]), .inl (false, 24), .inl (false, 8), .inl (true, 8), .inl (false, 32), .inl (false, 8), .inl (false, 64), .inl (false, 64), .inl (false, 64), .inl (false, 24), .inl (false, 24), .inl (false, 24), .inl (false, 192), .inr (0, [none, none, none, some 15, some 16, some 17, some 18, some 19, some 20, some 21, some 22, some 23, some 24, some 25, some 26]), .inl (false, 24), .inl (false, 8), .inl (true, 8), .inl (false, 32), .inl (false, 8), .inl (false, 64), .inl (false, 64), .inl (false, 64), .inl (false, 24), .inl (false, 24), .inl (false, 24), .inl (false, 192), .inr (2, [some 1, some 28, some 29, some 30]), .inl (false, 8), .inl (false, 8), .inl (false, 8), .inr (4, [some 1, some 32, some 33, some 34, none, none, none]), .inl (false, 8), .inl (false, 8), .inl (true, 8), .inr (5, [some 1, some 36, some 37, some 38, some 39, some 40, none, none, none, none]), .inl (false, 24), .inl (false, 24), .inl (false, 576), .inl (false, 4), .inl (false, 4), .inr (7, [some 42, none, none, none]), .inl (false, 150), .inr (8, [some 1, some 41, some 44, some 45, some 46, some 47, some 48, some 49, none]), .inl (false, 8), .inl (false, 8), .inl (false, 8), .inl (false, 24), .inl (false, 24), .inl (false, 24), .inr (1, [some 1, some 41, some 51]), .inl (false, 6), .inr (3, [some 53, none]), .inl (false, 168), .inr (6, [some 55, some 56]), .inl (false, 120), .inl (false, 4), .inr (10, [some 58, some 59, none, some 60, some 61, some 62, some 63, none, some 64, some 65, some 66, none, none, none, some 67, some 68, none, none, some 69, none, none, none, none, some 70, none, none, none, some 71, some 72, some 73, some 74, none, some 75, some 76]), .inl (false, 515), .inl (false, 515), .inl (false, 4), .inl (false, 4), .inl (false, 24), .inl (false, 8), .inl (false, 8), .inl (true, 8), .inl (false, 8), .inl (false, 4), .inl (false, 4), .inl (false, 150), .inl (false, 72), .inl (false, 24), .inl (false, 24), .inl (false, 8), .inl (false, 168), .inl (false, 4), .inl (false, 120)]
def NN : Nat := 77
abbrev sh (k : Nat) : Sh := shapes.getD k (.inl (false, 0))
def wl (G : GG) (M : Mm) : va_W := (List.range NN).map (fun k => (G.1 k, sEnt G M k (sh k)))
theorem wl_get (G : GG) (M : Mm) {k : Nat} (h : k < NN) : (wl G M)[k]? = some (G.1 k, sEnt G M k (sh k)) := by
  unfold wl
  rw [List.getElem?_map, List.getElem?_range h]
  rfl
theorem wl_inv (G : GG) (M : Mm) {k : Nat} {q : Nat × va_E} (h : (wl G M)[k]? = some q) : k < NN ∧ q = (G.1 k, sEnt G M k (sh k)) := by
  have hk : k < NN := by
    have h1 := (List.getElem?_eq_some_iff.mp h).1
    unfold wl at h1
    simpa using h1
  rw [wl_get G M hk] at h
  exact ⟨hk, (Option.some.inj h).symm⟩
theorem sEnt_at {G : GG} {M M' : Mm} {k : Nat} (h : M' k = M k) (s : Sh) : sEnt G M' k s = sEnt G M k s := by
  rcases s with ⟨b, n⟩ | ⟨ci, fs⟩
  · simp only [sEnt, h]
  · simp only [sEnt, fEnt, h]
theorem wl_set (G : GG) (M M' : Mm) {k : Nat} (hk : k < NN) (ho : ∀ a, a ≠ k → M' a = M a) : (wl G M).set k (G.1 k, sEnt G M' k (sh k)) = wl G M' := by
  apply List.ext_getElem?
  intro j
  by_cases hj : j = k
  · subst hj
    have hl : j < (wl G M).length := by unfold wl; simpa using hk
    rw [List.getElem?_set_self hl, wl_get G M' hk]
  · rw [List.getElem?_set_ne (Ne.symm hj)]
    by_cases hn : j < NN
    · rw [wl_get G M hn, wl_get G M' hn, sEnt_at (ho j hj)]
    · have e1 : (wl G M)[j]? = none := by simp [wl]; omega
      have e2 : (wl G M')[j]? = none := by simp [wl]; omega
      rw [e1, e2]
def cv (G : GG) : Value → Value
  | .ref k => .ref (G.1 k)
  | v => v
theorem cv_cat (G : GG) (v : Value) : (cv G v).category = v.category := by cases v <;> rfl
def gA (G : GG) (sz : Nat) : Nat → Prop := fun q => (∃ k, k < NN ∧ q = G.1 k) ∨ sz ≤ q
def gy (G : GG) : List (ClassId × FieldType) := [(G.2.2.2.1, .int), (G.2.2.2.2, .boolean)]
def gD (G : GG) : va_G := (G.2.1, G.2.2.1)
def burF : Nat → Value := fun j => .int ([5, 3, 2, 1].getD j 0)
def letF : Nat → Value := fun j => .int ([104, 101, 110, 112].getD j 0)
def strL : List Nat := [3, 4, 3, 4, 7, 4]
def strB : List (List Int32) := [[100, 97, 121], [107, 105, 110, 100], [119, 104, 111], [104, 101, 108, 100], [100, 105, 115, 108, 105, 107, 101], [119, 101, 101, 107]]
def strI : List (Nat × String) := [(94, "day"), (100, "kind"), (102, "who"), (104, "held"), (106, "dislike"), (108, "week")]
def nestF : List (String × Nat × String × String × String × String) := [("FairTurns$Book", 99, "FairTurns", "BURDENS", "[I", "FairTurns"), ("FairTurns$Tape", 40, "FairTurns", "LETTERS", "[C", "FairTurns"), ("FairTurns$Paper", 52, "FairTurns", "LETTERS", "[C", "FairTurns")]
def nestM : List (String × Nat × MethodName × String) := [("FairTurns$Book", 86, ⟨"FairTurns", "isKind", "(I)Z"⟩, "FairTurns"), ("FairTurns$Paper", 48, ⟨"FairTurns", "isKind", "(I)Z"⟩, "FairTurns")]
def gNe (U : State) : Prop := (∀ q ∈ nestF, va_Nw (.fieldLinkNest q.1 q.2.1 q.2.2.1 q.2.2.2.1 q.2.2.2.2.1 q.2.2.2.2.2) U) ∧ ∀ q ∈ nestM, va_Nw (.methodLinkNest q.1 q.2.1 q.2.2.1 q.2.2.2) U
theorem gNe.warm {u U : State} (hW : u.WarmedH U.vm) (h : gNe u) : gNe U := ⟨fun q hq => va_Nw.warmF hW (h.1 q hq), fun q hq => va_Nw.warmM hW (h.2 q hq)⟩
theorem gNe.same {u U : State} (hv : u.vm = U.vm) (h : gNe u) : gNe U := ⟨fun q hq => va_Nw.same rfl hv (h.1 q hq), fun q hq => va_Nw.same rfl hv (h.2 q hq)⟩
/-- what never changes and lies outside: static arrays, String constants, the JDK's own statics -/
def gS (G : GG) (A : Nat → Prop) (U : State) (H : Heap) : Prop :=
  va_Z "FairTurns" "BURDENS" "[I" (.ref (G.1 NN)) A U H ∧ va_T .int (G.1 NN) 4 burF A U H ∧ va_Z "FairTurns" "LETTERS" "[C" (.ref (G.1 (NN + 1))) A U H ∧ va_T .char (G.1 (NN + 1)) 4 letF A U H ∧
  vk_S 6 strL strB (fun i => G.1 (NN + 2 + i)) (fun i => G.1 (NN + 8 + i)) A U H ∧ (∀ (i : Nat) (q : Nat × String), strI[i]? = some q → vk_R "FairTurns$Condition" q.1 q.2 (G.1 (NN + 2 + i)) U) ∧
  va_Z "java/lang/String" "COMPACT_STRINGS" "Z" (.int 1) A U H ∧ (va_Z "jdk/internal/util/Preconditions" "SIOOBE_FORMATTER" "Ljava/util/function/BiFunction;" .null A U H ∨ va_Z "jdk/internal/util/Preconditions" "SIOOBE_FORMATTER" "Ljava/util/function/BiFunction;" (.ref (G.1 (NN + 14))) A U H) ∧ gNe U
theorem gS.kept {G : GG} {A : Nat → Prop} {U : State} {H H1 : Heap} (h : gS G A U H) (hq : ∀ a : Nat, a < H.size → ¬ A a → H1[a]? = H[a]?) : gS G A U H1 := by
  obtain ⟨h1, h2, h3, h4, h5, h6, h7, h8, h9⟩ := h
  refine ⟨h1.kept hq, h2.kept hq, h3.kept hq, h4.kept hq, h5.kept hq, h6, h7.kept hq, ?_, h9⟩
  rcases h8 with h | h
  · exact Or.inl (h.kept hq)
  · exact Or.inr (h.kept hq)
theorem gS.warm {G : GG} {A : Nat → Prop} {u U : State} {H : Heap} (hW : u.WarmedH U.vm) (h : gS G A u H) : gS G A U H := by
  obtain ⟨h1, h2, h3, h4, h5, h6, h7, h8, h9⟩ := h
  have a := hW.alike
  refine ⟨h1.moved a, h2.moved a, h3.moved a, h4.moved a, h5.moved a, fun i q hq => (h6 i q hq).warm hW, h7.moved a, ?_, h9.warm hW⟩
  rcases h8 with h | h
  · exact Or.inl (h.moved a)
  · exact Or.inr (h.moved a)
theorem gS.same {G : GG} {A : Nat → Prop} {u U : State} {H : Heap} (hv : U.vm = u.vm) (h : gS G A u H) : gS G A U H := by
  obtain ⟨h1, h2, h3, h4, h5, h6, h7, h8, h9⟩ := h
  have a : u.vm.Alike U.vm := by rw [hv]; exact Vm.Alike.refl _
  refine ⟨h1.moved a, h2.moved a, h3.moved a, h4.moved a, h5.moved a, fun i q hq => (h6 i q hq).same hv, h7.moved a, ?_, h9.same hv.symm⟩
  rcases h8 with h | h
  · exact Or.inl (h.moved a)
  · exact Or.inr (h.moved a)
def gP (G : GG) (sz : Nat) (M : Mm) (U : State) (H : Heap) : Prop :=
  sz ≤ H.size ∧ va_P (gD G) vwCl (wl G M) H ∧ va_K (gD G) vwCl (gy G) U ∧ va_D (gA G sz) (wl G M) ∧ gS G (gA G sz) U H
theorem gP.warm {G : GG} {sz : Nat} {M : Mm} {u U : State} {H : Heap} (hW : u.WarmedH U.vm) (h : gP G sz M u H) : gP G sz M U H :=
  ⟨h.1, h.2.1, va_K.moved hW.alike h.2.2.1, h.2.2.2.1, h.2.2.2.2.warm hW⟩
theorem gP.same {G : GG} {sz : Nat} {M : Mm} {u U : State} {H : Heap} (hv : U.vm = u.vm) (h : gP G sz M u H) : gP G sz M U H :=
  ⟨h.1, h.2.1, va_K.moved (by rw [hv]; exact Vm.Alike.refl _) h.2.2.1, h.2.2.2.1, h.2.2.2.2.same hv⟩
def wsM (m : Me) : List Cond := .code m.1 m.2.1 m.2.2.1 m.2.2.2 :: TB
def rmd (d : Nat) : Room := { frames := d, cells := 0, slots := 0, locals := 40 * d }
def gQ (G : GG) (sz : Nat) (Q : Po) : Array Value → State → Outcome → State → Prop := fun _ st oc t =>
  (∃ (v : Option Value) (M' : Mm), oc = .returned (v.map (cv G)) ∧ Q M' v ∧ gP G sz M' t t.heap) ∧ va_F (gA G sz) st t
/-- THE CALL of a method, at a depth: from every state that holds the memory it returns with Q of memory and answer -/
def Call (d : Nat) (m : Me) (args : List Value) (M : Mm) (Q : Po) : Prop := ∀ (l : Launch) (G : GG) (sz : Nat),
  Met l m.1 (wsM m) (rmd d) (va_Pc (args.map (cv G)) (fun U => gP G sz M U U.heap)) (gQ G sz Q) 0 0 (gA G sz)
/-- the frame in which a method's body stands -/
def gF (m : Me) (p : Program) (s : State) (mi : MethodId) (args : Array Value) (meth : Method) (c : Code) : Prop :=
  p.tables.exec = Jvm.exec ∧ c.code = m.2.1 ∧ meth.sig.returnType = m.2.2.2 ∧ c.maxLocals = m.2.2.1 ∧ s.vm.findClass m.1.cls = some mi.cls ∧ (∀ w ∈ wsM m, w.before args s = true) ∧ meth.locks = false
def lvl (G : GG) (ls : Lv) : List (Nat × Value) := ls.zipIdx.filterMap (fun q => q.1.map (fun v => (q.2, cv G v)))
/-- THE BODY of a method, at a place with locals, stack and memory: from there it goes on to a return with Q -/
def Go (m : Me) (d : Nat) (Q : Po) (pc : Nat) (ls : Lv) (st : St) (M : Mm) : Prop :=
  ∀ (p : Program) (l : Launch) (e : Env) (s : State) (mi : MethodId) (args : Array Value) (below : List Frame) (meth : Method) (c : Code) (G : GG) (sz : Nat), gF m p s mi args meth c →
  va_K (gD G) vwCl (gy G) s → gS G (gA G sz) s s.heap → sz ≤ s.heap.size → ∀ (H : Heap) (locs : List Loc) (arr : Array Slot), va_P (gD G) vwCl (wl G M) H → va_D (gA G sz) (wl G M) → va_S (gA G sz) s.heap H locs → lv_has arr m.2.2.1 (lvl G ls) →
  W p l e (rmd d) s mi args below meth c H locs 0 0 (MQ below (gQ G sz Q) args s 0 0 (gA G sz)) (F0 mi pc arr (st.map (cv G)))
theorem lvl_mem {G : GG} {ls : Lv} {k : Nat} {v : Value} (h : ls[k]? = some (some v)) : (k, cv G v) ∈ lvl G ls := by
  refine List.mem_filterMap.mpr ⟨(some v, k), ?_, rfl⟩
  have h1 : ls.zipIdx[k]? = some (some v, k) := by rw [List.getElem?_zipIdx, h]; simp
  exact List.mem_of_getElem? h1
theorem lvl_inv {G : GG} {ls : Lv} {q : Nat × Value} (h : q ∈ lvl G ls) : ∃ v : Value, ls[q.1]? = some (some v) ∧ q.2 = cv G v := by
  obtain ⟨⟨o, k⟩, h1, h2⟩ := List.mem_filterMap.mp h
  obtain ⟨i, hi⟩ := List.getElem?_of_mem h1
  rw [List.getElem?_zipIdx] at hi
  cases ho : ls[i]? with
  | none => rw [ho] at hi; cases hi
  | some o2 =>
    rw [ho] at hi
    simp only [Option.map_some, Option.some.injEq, Prod.mk.injEq, Nat.zero_add] at hi
    obtain ⟨rfl, rfl⟩ := hi
    cases o2 with
    | none => cases h2
    | some v => cases h2; exact ⟨v, ho, rfl⟩
theorem lv_val {G : GG} {ls : Lv} {arr : Array Slot} {n k : Nat} {v : Value} (hl : lv_has arr n (lvl G ls)) (h : ls[k]? = some (some v)) : arr[k]? = some (.val (cv G v)) := hl.2.2 _ (lvl_mem (G := G) h)
/-- behind a store -/
theorem lv_stored {G : GG} {ls : Lv} {arr : Array Slot} {n k : Nat} {v : Value} (hc : ∀ w, some w ∈ ls → w.category = 1) (hl : lv_has arr n ((k, cv G v) :: (lvl G ls).filter (fun q => !(q.1 == k) && !(q.1 + 1 == k && q.2.category == 2)))) : lv_has arr n (lvl G (ls.set k (some v))) := by
  refine ⟨hl.1, hl.2.1, fun q hq => ?_⟩
  obtain ⟨w, h1, h2⟩ := lvl_inv hq
  obtain ⟨q1, q2⟩ := q
  dsimp only at h1 h2 ⊢
  subst h2
  by_cases hk : q1 = k
  · subst hk
    have hlt : q1 < ls.length := by have := (List.getElem?_eq_some_iff.mp h1).1; simpa using this
    rw [List.getElem?_set_self hlt] at h1
    cases h1
    exact hl.2.2 (q1, cv G v) List.mem_cons_self
  · rw [List.getElem?_set_ne (Ne.symm hk)] at h1
    refine hl.2.2 (q1, cv G w) (List.mem_cons_of_mem _ (List.mem_filter.mpr ⟨lvl_mem h1, ?_⟩))
    have hcat : (cv G w).category = 1 := by rw [cv_cat]; exact hc w (List.mem_of_getElem? h1)
    simp [hk, hcat]
def okL : Lv → Bool
  | [] => true
  | none :: l => okL l
  | some (.int _) :: l => okL l
  | some (.ref _) :: l => okL l
  | _ => false
theorem okL_cat : ∀ {ls : Lv}, okL ls = true → ∀ w, some w ∈ ls → w.category = 1
  | [], _, w, h => by cases h
  | none :: l, h, w, hw => by
    rcases List.mem_cons.mp hw with e | e
    · cases e
    · exact okL_cat (ls := l) (by simpa [okL] using h) w e
  | some v :: l, h, w, hw => by
    rcases List.mem_cons.mp hw with e | e
    · cases e
      cases v <;> first | rfl | (simp [okL] at h)
    · refine okL_cat (ls := l) ?_ w e
      cases v <;> simp [okL] at h ⊢ <;> exact h
theorem lv_fresh {G : GG} {as : List Value} {n : Nat} (ls : Lv) (hn : (lg_sl (as.map (cv G))).length ≤ n) (h : ∀ (k : Nat) (v : Value), ls[k]? = some (some v) → (k, cv G v) ∈ lv_args 0 (as.map (cv G))) :
    lv_has ((lg_sl (as.map (cv G)) ++ List.replicate (n - (lg_sl (as.map (cv G))).length) Slot.unset).toArray) n (lvl G ls) := by
  have h0 := lv_entry (as.map (cv G)) hn
  refine ⟨h0.1, h0.2.1, fun q hq => ?_⟩
  obtain ⟨v, h1, h2⟩ := lvl_inv hq
  obtain ⟨q1, q2⟩ := q
  dsimp only at h1 h2 ⊢
  subst h2
  exact h0.2.2 _ (h q1 v h1)
