/-! MAKING: constructors' bodies, over worlds that grow -/
theorem tq124 : (Cond.code Lib.objectInit ⟨#[0xb1]⟩ 1 none : Cond) ∈ TB := tb_of 125 (by decide +kernel) rfl
theorem tq190 : (Cond.arrayClass .int : Cond) ∈ TB := tb_of 191 (by decide +kernel) rfl
theorem tq191 : (Cond.arrayClass .boolean : Cond) ∈ TB := tb_of 192 (by decide +kernel) rfl
theorem gGood2 {y : Me} (hy : gCal y) : GoodIn TB (wsM y) := by
  intro w hw
  rcases List.mem_cons.mp hw with e | e
  · subst e
    exact ⟨hy.1, good_of_word (TB_good _ hy.1)⟩
  · exact ⟨e, good_of_word (TB_good _ e)⟩
/-- the frame of a body that makes -/
def zF (m : Me) (p : Program) (s : State) (mi : MethodId) (args : Array Value) (meth : Method) (c : Code) : Prop :=
  p.tables.exec = Jvm.exec ∧ c.code = m.2.1 ∧ meth.sig.returnType = m.2.2.2 ∧ c.maxLocals = m.2.2.1 ∧ s.vm.findClass m.1.cls = some mi.cls ∧ (∀ w ∈ TB, w.before args s = true) ∧ meth.locks = false
abbrev zT (cI cZ : ClassId) : List (ClassId × FieldType) := [(cI, .int), (cZ, .boolean)]
def zC (m : Me) (D : va_G) (cI cZ : ClassId) (A : Nat → Prop) (p : Program) (s : State) (mi : MethodId) (args : Array Value) (meth : Method) (c : Code) : Prop := zF m p s mi args meth c ∧ va_K D vwCl (zT cI cZ) s ∧ ∀ q, s.heap.size ≤ q → A q
def Mz (m : Me) (R : Room) (D : va_G) (A : Nat → Prop) (p : Program) (l : Launch) (e : Env) (s : State) (mi : MethodId) (args : Array Value) (below : List Frame) (meth : Method) (c : Code) (Q : State → Prop) (pc : Nat) (ls : List (Nat × Value)) (st : List Value) (ws : va_W) (n k : Nat) : Prop :=
  ∀ (H : Heap) (locs : List Loc) (arr : Array Slot), va_P D vwCl ws H → va_D A ws → va_S A s.heap H locs → lv_has arr m.2.2.1 ls → W p l e R s mi args below meth c H locs n k Q (F0 mi pc arr st)
def zWB (D : va_G) (cI cZ : ClassId) (A : Nat → Prop) (w : va_W) (t : State) : Prop := va_P D vwCl w t.heap ∧ va_K D vwCl (zT cI cZ) t ∧ va_D A w
def Makes (cI cZ : ClassId) (m : Me) (rm : Room) (X : State → Prop) (av : List Value) (w0 : va_W) (post : va_W → Prop) (mc ms : Nat) : Prop := ∀ (l : Launch) (D : va_G) (sz : Nat),
  Met l m.1 (wsM m) rm (va_Pc av (fun U => U.heap.size = sz ∧ va_P D vwCl w0 U.heap ∧ va_K D vwCl (zT cI cZ) U ∧ va_D (fun _ => True) w0 ∧ X U)) (va_Qv post (zWB D cI cZ (va_A w0 sz)) (va_A w0 sz)) mc ms (va_A w0 sz)
theorem k_uniq {D : va_G} {cl : List vw_C} {tys : List (ClassId × FieldType)} {U : State} (hK : va_K D cl tys U) {i j : Nat} {a b : ClassId} {ty : FieldType} (hty : ty = .int ∨ ty = .boolean) (hi : tys[i]? = some (a, ty)) (hj : tys[j]? = some (b, ty)) : a = b := by
  have h1 := (hK.2 i _ hi).2
  have h2 := (hK.2 j _ hj).2
  rcases hty with rfl | rfl
  · exact Option.some.inj (h1.symm.trans h2)
  · exact Option.some.inj (h1.symm.trans h2)
section MKZ
variable {m : Me} {R : Room} {D : va_G} {cI cZ : ClassId} {A : Nat → Prop} {p : Program} {l : Launch} {e : Env} {s : State} {mi : MethodId} {args : Array Value} {below : List Frame} {meth : Method} {c : Code} {Q : State → Prop} {pc : Nat} {ls : List (Nat × Value)} {st : List Value} {ws : va_W} {n k : Nat}
theorem Mz.eqw {w2 : va_W} (h : ws = w2) (kk : Mz m R D A p l e s mi args below meth c Q pc ls st w2 n k) : Mz m R D A p l e s mi args below meth c Q pc ls st ws n k := h ▸ kk
theorem mz_aload (C : zC m D cI cZ A p s mi args meth c) {i : Fin 4} {x : Nat} (j : Nat) (hd : decode m.2.1 pc = .ok (.aload_n i, 1)) (h : ls[j]? = some (i.val, .ref x)) (kk : Mz m R D A p l e s mi args below meth c Q (pc + 1) ls (.ref x :: st) ws n k) : Mz m R D A p l e s mi args below meth c Q pc ls st ws n k :=
  fun H locs arr hP hD hS hl => lv_aload_n C.1.1 C.1.2.1 hd rfl (lv_at hl j h) (kk H locs arr hP hD hS hl)
theorem mz_iload (C : zC m D cI cZ A p s mi args meth c) {i : Fin 4} {x : Int32} (j : Nat) (hd : decode m.2.1 pc = .ok (.iload_n i, 1)) (h : ls[j]? = some (i.val, .int x)) (kk : Mz m R D A p l e s mi args below meth c Q (pc + 1) ls (.int x :: st) ws n k) : Mz m R D A p l e s mi args below meth c Q pc ls st ws n k :=
  fun H locs arr hP hD hS hl => lv_iload_n C.1.1 C.1.2.1 hd rfl (lv_at hl j h) (kk H locs arr hP hD hS hl)
theorem mz_iconst (C : zC m D cI cZ A p s mi args meth c) (v : Int32) {z : Int} (hd : decode m.2.1 pc = .ok (.iconst z, 1)) (h : Int32.ofInt z = v) (kk : Mz m R D A p l e s mi args below meth c Q (pc + 1) ls (.int v :: st) ws n k) : Mz m R D A p l e s mi args below meth c Q pc ls st ws n k :=
  fun H locs arr hP hD hS hl => lv_iconst C.1.1 C.1.2.1 hd h (kk H locs arr hP hD hS hl)
theorem mz_bipush (C : zC m D cI cZ A p s mi args meth c) (v : Int32) {z : Int} (hd : decode m.2.1 pc = .ok (.bipush z, 2)) (h : (Int8.ofInt z).toInt32 = v) (kk : Mz m R D A p l e s mi args below meth c Q (pc + 2) ls (.int v :: st) ws n k) : Mz m R D A p l e s mi args below meth c Q pc ls st ws n k :=
  fun H locs arr hP hD hS hl => lv_bipush C.1.1 C.1.2.1 hd h (kk H locs arr hP hD hS hl)
theorem mz_sipush (C : zC m D cI cZ A p s mi args meth c) (v : Int32) {z : Int} (hd : decode m.2.1 pc = .ok (.sipush z, 3)) (h : (Int16.ofInt z).toInt32 = v) (kk : Mz m R D A p l e s mi args below meth c Q (pc + 3) ls (.int v :: st) ws n k) : Mz m R D A p l e s mi args below meth c Q pc ls st ws n k :=
  fun H locs arr hP hD hS hl => lv_sipush C.1.1 C.1.2.1 hd h (kk H locs arr hP hD hS hl)
theorem mz_dup (C : zC m D cI cZ A p s mi args meth c) {x : Nat} (hd : decode m.2.1 pc = .ok (.dup, 1)) (kk : Mz m R D A p l e s mi args below meth c Q (pc + 1) ls (.ref x :: .ref x :: st) ws n k) : Mz m R D A p l e s mi args below meth c Q pc ls (.ref x :: st) ws n k :=
  fun H locs arr hP hD hS hl => lv_dup C.1.1 C.1.2.1 hd rfl (kk H locs arr hP hD hS hl)
theorem mz_goto (C : zC m D cI cZ A p s mi args meth c) {off : Int} (tgt : Nat) (hd : decode m.2.1 pc = .ok (.goto off, 3)) (ht : (pc : Int) + off = (tgt : Int)) (kk : Mz m R D A p l e s mi args below meth c Q tgt ls st ws n k) : Mz m R D A p l e s mi args below meth c Q pc ls st ws n k :=
  fun H locs arr hP hD hS hl => lv_goto (tgt := tgt) C.1.1 C.1.2.1 hd ht (kk H locs arr hP hD hS hl)
theorem mz_astore (C : zC m D cI cZ A p s mi args meth c) {i : Fin 4} {x : Nat} {lt : List (Nat × Value)} (hd : decode m.2.1 pc = .ok (.astore_n i, 1)) (hn : i.val < m.2.2.1) (hl2 : (i.val, Value.ref x) :: ls.filter (fun q => !(q.1 == i.val) && !(q.1 + 1 == i.val && q.2.category == 2)) = lt) (kk : Mz m R D A p l e s mi args below meth c Q (pc + 1) lt st ws n k) : Mz m R D A p l e s mi args below meth c Q pc ls (.ref x :: st) ws n k :=
  fun H locs _ hP hD hS hl => lv_astore_n C.1.1 C.1.2.1 hd rfl hl hn hl2 (fun arr hl => kk H locs arr hP hD hS hl)
theorem mz_istore (C : zC m D cI cZ A p s mi args meth c) {i : Fin 4} {x : Int32} {lt : List (Nat × Value)} (hd : decode m.2.1 pc = .ok (.istore_n i, 1)) (hn : i.val < m.2.2.1) (hl2 : (i.val, Value.int x) :: ls.filter (fun q => !(q.1 == i.val) && !(q.1 + 1 == i.val && q.2.category == 2)) = lt) (kk : Mz m R D A p l e s mi args below meth c Q (pc + 1) lt st ws n k) : Mz m R D A p l e s mi args below meth c Q pc ls (.int x :: st) ws n k :=
  fun H locs _ hP hD hS hl => lv_istore_n C.1.1 C.1.2.1 hd rfl hl hn hl2 (fun arr hl => kk H locs arr hP hD hS hl)
theorem mz_iinc (C : zC m D cI cZ A p s mi args meth c) {i : Nat} {z : Int} {x : Int32} (v : Int32) {lt : List (Nat × Value)} (j : Nat) (hd : decode m.2.1 pc = .ok (.iinc i z, 3)) (h : ls[j]? = some (i, .int x)) (hv : x + Int32.ofInt z = v) (hn : i < m.2.2.1) (hl2 : (i, Value.int v) :: ls.filter (fun q => !(q.1 == i) && !(q.1 + 1 == i && q.2.category == 2)) = lt) (kk : Mz m R D A p l e s mi args below meth c Q (pc + 3) lt st ws n k) : Mz m R D A p l e s mi args below meth c Q pc ls st ws n k :=
  fun H locs _ hP hD hS hl => lv_iinc (v := v) C.1.1 C.1.2.1 hd hl h hv hn hl2 (fun arr hl => kk H locs arr hP hD hS hl)
theorem mz_icmp_ge_f (C : zC m D cI cZ A p s mi args meth c) {x y : Int32} {off : Int} (tgt : Nat) (hd : decode m.2.1 pc = .ok (.if_icmp .ge off, 3)) (ht : (pc : Int) + off = (tgt : Int)) (h : ¬ y ≤ x) (kk : Mz m R D A p l e s mi args below meth c Q (pc + 3) ls st ws n k) : Mz m R D A p l e s mi args below meth c Q pc ls (.int y :: .int x :: st) ws n k :=
  fun H locs arr hP hD hS hl => lv_icmp_ge (tgt := tgt) C.1.1 C.1.2.1 hd ht (fun q => absurd q h) (fun _ => kk H locs arr hP hD hS hl)
theorem mz_icmp_ge_t (C : zC m D cI cZ A p s mi args meth c) {x y : Int32} {off : Int} (tgt : Nat) (hd : decode m.2.1 pc = .ok (.if_icmp .ge off, 3)) (ht : (pc : Int) + off = (tgt : Int)) (h : y ≤ x) (kk : Mz m R D A p l e s mi args below meth c Q tgt ls st ws n k) : Mz m R D A p l e s mi args below meth c Q pc ls (.int y :: .int x :: st) ws n k :=
  fun H locs arr hP hD hS hl => lv_icmp_ge (tgt := tgt) C.1.1 C.1.2.1 hd ht (fun _ => kk H locs arr hP hD hS hl) (fun q => absurd h q)
theorem mz_newI (C : zC m D cI cZ A p s mi args meth c) {z : Nat} (hz0 : Nat.ble (z + 1) 100000 = true) (hn : n + 1 ≤ R.cells) (hk : k + z ≤ R.slots) (hd : decode m.2.1 pc = .ok (.newarray .int, 2)) (kk : ∀ q : Nat, Mz m R D A p l e s mi args below meth c Q (pc + 2) ls (.ref q :: st) (ws ++ [(q, .inl (cI, z, .inl (fun _ => 0)))]) (n + 1) (k + z)) : Mz m R D A p l e s mi args below meth c Q pc ls (.int (nI z) :: st) ws n k := by
  have hz : z < 100000 := Nat.le_of_ble_eq_true hz0
  intro H locs arr hP hD hS hl
  refine va_newa (atype := .int) (ty := .int) (a0 := (z, .inl (fun _ => 0))) (N' := z) C.1.1 C.1.2.1 (C.1.2.2.2.2.2.1 _ tq190) rfl C.2.1 hP hD hS C.2.2 (fun cA => rfl) (nI_pos (by omega)) (nI_clamp (by omega)) ?_ hn hk hd (fun q cA H1 hK1 hP1 hD1 hS1 => ?_)
  · show z * 4 ≤ 536870912
    omega
  · obtain rfl : cA = cI := k_uniq hK1 (Or.inl rfl) (i := 2) (j := 0) rfl rfl
    exact kk q H1 locs arr hP1 hD1 hS1 hl
theorem mz_newZ (C : zC m D cI cZ A p s mi args meth c) {z : Nat} (hz0 : Nat.ble (z + 1) 100000 = true) (hn : n + 1 ≤ R.cells) (hk : k + z ≤ R.slots) (hd : decode m.2.1 pc = .ok (.newarray .boolean, 2)) (kk : ∀ q : Nat, Mz m R D A p l e s mi args below meth c Q (pc + 2) ls (.ref q :: st) (ws ++ [(q, .inl (cZ, z, .inl (fun _ => 0)))]) (n + 1) (k + z)) : Mz m R D A p l e s mi args below meth c Q pc ls (.int (nI z) :: st) ws n k := by
  have hz : z < 100000 := Nat.le_of_ble_eq_true hz0
  intro H locs arr hP hD hS hl
  refine va_newa (atype := .boolean) (ty := .boolean) (a0 := (z, .inl (fun _ => 0))) (N' := z) C.1.1 C.1.2.1 (C.1.2.2.2.2.2.1 _ tq191) rfl C.2.1 hP hD hS C.2.2 (fun cA => rfl) (nI_pos (by omega)) (nI_clamp (by omega)) ?_ hn hk hd (fun q cA H1 hK1 hP1 hD1 hS1 => ?_)
  · show z * 1 ≤ 536870912
    omega
  · obtain rfl : cA = cZ := k_uniq hK1 (Or.inr rfl) (i := 2) (j := 1) rfl rfl
    exact kk q H1 locs arr hP1 hD1 hS1 hl
theorem mz_iast (C : zC m D cI cZ A p s mi args meth c) {a z j : Nat} {f : Nat → Int32} {x : Int32} {w2 : va_W} (q0 : Nat) (hd : decode m.2.1 pc = .ok (.iastore, 1)) (he : ws[q0]? = some (a, .inl (cI, z, .inl f))) (hj : j < z) (hz : z < 100000) (hw : ws.set q0 (a, .inl (cI, z, .inl (upd f j x))) = w2) (kk : Mz m R D A p l e s mi args below meth c Q (pc + 1) ls st w2 n k) : Mz m R D A p l e s mi args below meth c Q pc ls (.int x :: .int (nI j) :: .ref a :: st) ws n k := by
  intro H locs arr hP hD hS hl
  refine va_iast (D := D) C.1.1 C.1.2.1 C.2.1 hP hD hS q0 0 (cA := cI) (n := z) (f := f) he rfl (nI_in hj (by omega)) hd (fun H1 locs1 hP1 hD1 hS1 => ?_)
  rw [nI_clamp (by omega), hw] at hP1 hD1
  exact kk H1 locs1 arr hP1 hD1 hS1 hl
theorem mz_putF (C : zC m D cI cZ A p s mi args meth c) (hin : meth.name = "<init>") {ci N idx a : Nat} {T : u_T} {fs : List Value} {ty : FieldType} {v : Value} {w2 : va_W} (q0 j : Nat) (hg : gCl ci m.1.cls T N) (hd : decode m.2.1 pc = .ok (.putfield idx, 3)) (he : ws[q0]? = some (a, .inr (ci, fs))) (hj : j < N) (hlk : Cond.fieldLink m.1.cls idx (T j).1 (T j).2.1 (T j).2.2.1 ∈ TB) (hfin : (T j).2.2.2 = true) (hdecl : (T j).1 = m.1.cls) (hp : parseFieldDescriptor (T j).2.2.1 = some ty) (hn : narrow ty v = v) (hfit : fits ty v = true) (hl2 : Nat.ble (j + 1) fs.length = true) (hw : ws.set q0 (a, .inr (ci, fs.set j v)) = w2) (kk : Mz m R D A p l e s mi args below meth c Q (pc + 3) ls st w2 n k) : Mz m R D A p l e s mi args below meth c Q pc ls (v :: .ref a :: st) ws n k := by
  intro H locs arr hP hD hS hl
  obtain ⟨ty0, hty0⟩ := hg.2.2.2
  refine va_putF (D := D) (ci := ci) (v := v) (ty := ty) (C := m.1.cls) (T := T) (N := N) C.1.1 C.1.2.1 C.1.2.2.2.2.2.1 hg.2.1 ty0 hty0 hg.2.2.1 C.1.2.2.2.2.1 C.2.1 hP hD hS q0 he hg.1 j hj (C.1.2.2.2.2.2.1 _ hlk) (fun _ h9 => h9) hfin hin hdecl hp hn hfit (Nat.le_of_ble_eq_true hl2) hd (fun H1 locs1 hP1 hD1 hS1 => ?_)
  rw [hw] at hP1 hD1
  exact kk H1 locs1 arr hP1 hD1 hS1 hl
theorem mz_put (C : zC m D cI cZ A p s mi args meth c) {ci N idx a : Nat} {T : u_T} {fs : List Value} {ty : FieldType} {v : Value} {w2 : va_W} (q0 j : Nat) (hg : gCl ci m.1.cls T N) (hd : decode m.2.1 pc = .ok (.putfield idx, 3)) (he : ws[q0]? = some (a, .inr (ci, fs))) (hj : j < N) (hlk : Cond.fieldLink m.1.cls idx (T j).1 (T j).2.1 (T j).2.2.1 ∈ TB) (hfin : (T j).2.2.2 = false) (hp : parseFieldDescriptor (T j).2.2.1 = some ty) (hn : narrow ty v = v) (hfit : fits ty v = true) (hl2 : Nat.ble (j + 1) fs.length = true) (hw : ws.set q0 (a, .inr (ci, fs.set j v)) = w2) (kk : Mz m R D A p l e s mi args below meth c Q (pc + 3) ls st w2 n k) : Mz m R D A p l e s mi args below meth c Q pc ls (v :: .ref a :: st) ws n k := by
  intro H locs arr hP hD hS hl
  obtain ⟨ty0, hty0⟩ := hg.2.2.2
  refine va_put (D := D) (ci := ci) (v := v) (ty := ty) (C := m.1.cls) (T := T) (N := N) C.1.1 C.1.2.1 C.1.2.2.2.2.2.1 hg.2.1 ty0 hty0 hg.2.2.1 C.1.2.2.2.2.1 C.2.1 hP hD hS q0 he hg.1 j hj (C.1.2.2.2.2.2.1 _ hlk) (fun _ h9 => h9) hfin hp hn hfit (Nat.le_of_ble_eq_true hl2) hd (fun H1 locs1 hP1 hD1 hS1 => ?_)
  rw [hw] at hP1 hD1
  exact kk H1 locs1 arr hP1 hD1 hS1 hl
theorem mz_get (C : zC m D cI cZ A p s mi args meth c) {ci N idx a : Nat} {T : u_T} {fs : List Value} {v : Value} (q0 j : Nat) (hg : gCl ci m.1.cls T N) (hd : decode m.2.1 pc = .ok (.getfield idx, 3)) (he : ws[q0]? = some (a, .inr (ci, fs))) (hj : j < N) (hlk : Cond.fieldLink m.1.cls idx (T j).1 (T j).2.1 (T j).2.2.1 ∈ TB) (hv : fs[j]? = some v) (kk : Mz m R D A p l e s mi args below meth c Q (pc + 3) ls (v :: st) ws n k) : Mz m R D A p l e s mi args below meth c Q pc ls (.ref a :: st) ws n k :=
  fun H locs arr hP hD hS hl => va_get (D := D) (ci := ci) (v := v) (C := m.1.cls) (T := T) (N := N) C.1.1 C.1.2.1 C.1.2.2.2.2.2.1 hg.2.1 C.1.2.2.2.2.1 C.2.1 hP q0 he hg.1 j hj (C.1.2.2.2.2.2.1 _ hlk) (fun _ h9 => h9) hv hd (kk H locs arr hP hD hS hl)
theorem mz_obj (C : zC m D cI cZ A p s mi args meth c) {idx a : Nat} (hd : decode m.2.1 pc = .ok (.invokespecial idx, 3)) (hlk : Cond.methodLink m.1.cls idx ⟨"java/lang/Object", "<init>", "()V"⟩ ∈ TB) (hR : 1 ≤ R.frames) (hL0 : Nat.ble ((st.map fun v => v.category).sum + 12) R.locals = true) (kk : Mz m R D A p l e s mi args below meth c Q (pc + 3) ls st ws n k) : Mz m R D A p l e s mi args below meth c Q pc ls (.ref a :: st) ws n k := by
  intro H locs arr hP hD hS hl
  refine W.objInit C.1.1 C.1.2.1 C.1.2.2.2.2.1 (C.1.2.2.2.2.2.1 _ hlk) (C.1.2.2.2.2.2.1 _ tw124) (C.1.2.2.2.2.2.1 _ tq124) rfl (hl.1.trans C.1.2.2.2.1.symm) rfl hd hR ?_ ?_
  · have hL := Nat.le_of_ble_eq_true hL0
    show 2 * 0 + (st.map fun v => v.category).sum + 12 ≤ R.locals
    omega
  · exact W.eq (g2 := F0 mi (pc + 3) arr st) rfl (kk H locs arr hP hD hS hl)
theorem mz_new (C : zC m D cI cZ A p s mi args meth c) {ci N idx : Nat} {T : u_T} {C2 : String} (fs : List Value) (ty : Nat → FieldType) (hg : gCl ci C2 T N) (hd : decode m.2.1 pc = .ok (.new idx, 3)) (hty : ∀ k, k < N → parseFieldDescriptor (T k).2.2.1 = some (ty k)) (hcl : Cond.classLink m.1.cls idx C2 ∈ TB) (hinst : Cond.instantiable C2 N ∈ TB) (hini : Cond.initialized C2 ∈ TB) (hfs : ∀ j, j < N → defaultValue (ty j) = vp_V fs j) (hn : n + 1 ≤ R.cells) (hk : k + N ≤ R.slots) (kk : ∀ q : Nat, Mz m R D A p l e s mi args below meth c Q (pc + 3) ls (.ref q :: st) (ws ++ [(q, .inr (ci, fs))]) (n + 1) (k + N)) : Mz m R D A p l e s mi args below meth c Q pc ls st ws n k :=
  fun H locs arr hP hD hS hl => va_new (ci := ci) (fs := fs) (C := C2) (T := T) (N := N) C.1.1 C.1.2.1 C.1.2.2.2.2.2.1 hg.2.1 ty hty C.1.2.2.2.2.1 (C.1.2.2.2.2.2.1 _ hcl) (C.1.2.2.2.2.2.1 _ hinst) (C.1.2.2.2.2.2.1 _ hini) C.2.1 hP hD hS C.2.2 hg.1 hfs hn hk hd (fun q H1 hP1 hD1 hS1 => kk q H1 locs arr hP1 hD1 hS1 hl)
theorem mz_ret (C : zC m D cI cZ A p s mi args meth c) {post : va_W → Prop} (hret : m.2.2.2 = none) (hd : decode m.2.1 pc = .ok (.return_, 1)) (hp : post ws) : Mz m R D A p l e s mi args below meth c (MQ below (va_Qv post (zWB D cI cZ A) A) args s n k A) pc ls [] ws n k := by
  intro H locs arr hP hD hS hl
  exact W.vret C.1.1 C.1.2.1 (by rw [C.1.2.2.1]; exact hret) (fun t ht hW => ⟨⟨ws, rfl, hp, by rw [ht]; exact hP, va_K.moved hW.alike C.2.1, hD⟩, hS.F ht⟩) hS.2.2 hd C.1.2.2.2.2.2.2
/-- a constructor's call -/
theorem mz_call (C : zC m D cI cZ A p s mi args meth c) {y : Me} {rmy : Room} {X : State → Prop} {as st0 : List Value} {a idx mc ms : Nat} {wc wr : va_W} {post : va_W → Prop} (isC isR : List Nat) (hd : decode m.2.1 pc = .ok (.invokespecial idx, 3)) (hM : Makes cI cZ y rmy X (.ref a :: as) wc post mc ms)
    (hXb : ∀ U U' : State, U'.vm = U.vm → X U → X U') (hX : ∀ U : State, s.WarmedH U.vm → X U) (hC : isC.map (fun i => ws[i]?) = wc.map some) (hC2 : isC.filterMap (fun i => ws[i]?) = wc) (hnc : va_nd isC = true) (hR : isR.map (fun i => ws[i]?) = wr.map some) (hnr : va_nd isR = true) (hdis : ∀ i ∈ isR, i ∉ isC)
    (hy : gCal y) (hlk : Cond.methodLink m.1.cls idx y.1 ∈ TB) (hinst : Cond.instanceMethod y.1 ∈ TB) (hname : y.1.name = "<init>") (hret : y.2.2.2 = none) (hnp : (parseMethodDescriptor y.1.desc).map (fun q => q.parameters.length) = some as.length) (hrc : rmy.cells = mc) (hrs : rmy.slots = ms) (hRo : rmy.frames + 1 ≤ R.frames ∧ 8 + (y.2.2.1 + 11) + rmy.locals ≤ R.locals)
    (hst : st0 = as.reverse ++ .ref a :: st) (hcat : Nat.ble (st.map fun v => v.category).sum 8 = true) (hroom : n + mc ≤ R.cells ∧ k + ms ≤ R.slots) (kk : ∀ w1, post w1 → Mz m R D A p l e s mi args below meth c Q (pc + 3) ls st (wr ++ w1) (n + mc) (k + ms)) : Mz m R D A p l e s mi args below meth c Q pc ls st0 ws n k := by
  intro H locs arr hP hD hS hl
  have hPc := hP.sub (ws' := wc) isC hC2
  have hDc := hD.sub (ws' := wc) isC hnc hC
  have hFc := va_free (wc := wc) hD hS C.2.2 isC hC
  subst hst
  refine va_callv (va_runI (As := as) (b := a) (rest := st) ⟨C.1.1, C.1.2.1, C.1.2.2.2.1, C.1.2.2.2.2.1, C.1.2.2.2.2.2.1⟩ (hM l D H.size) (cwI (bytes := y.2.1) (maxL := y.2.2.1) (ws' := TB) as.length C.1.2.2.2.2.2.1 (gGood2 hy) (by unfold wsM; rw [hret]) hrc hrs (C.1.2.2.2.2.2.1 _ hy.2.1) (C.1.2.2.2.2.2.1 _ hlk) (C.1.2.2.2.2.2.1 _ hinst) hname ⟨hy.2.2.1, hy.2.2.2, hnp⟩ hRo)
    ⟨fun a U g mk q => by obtain ⟨q0, q1, qP, qK, qD, qX⟩ := q; exact ⟨q0, q1, qP, va_K.moved (u := U) (U := U.calling g mk a) (Vm.Alike.refl U.vm) qK, qD, hXb U (U.calling g mk a) rfl qX⟩, fun U hU hW => ⟨rfl, by rw [hU], by rw [hU]; exact hPc, va_K.moved hW.alike C.2.1, hDc.weaken (fun _ _ _ _ => trivial), hX U hW⟩⟩ rfl rfl hl.1 rfl (lv_room (Nat.le_of_ble_eq_true hcat)) hd hroom) hS (fun q _ h => hFc q h) hFc (fun u t H1 locs ht hvm hw hB hz1 hk1 hS => ?_)
  obtain ⟨hP1, hK1, hD1⟩ := hB
  rw [ht] at hP1
  obtain ⟨hP2, hD2⟩ := va_join (wr := wr) (w1 := u) hP hD isC isR hC hR hnr hdis hk1 hFc hP1 hD1
  exact kk u hw H1 locs arr hP2 hD2 hS hl
/-- a call of a nest mate's own constructor -/
theorem mz_callN (C : zC m D cI cZ A p s mi args meth c) {y : Me} {rmy : Room} {X : State → Prop} {as st0 : List Value} {a idx mc ms : Nat} {wc wr : va_W} {post : va_W → Prop} (host : String) (isC isR : List Nat) (hd : decode m.2.1 pc = .ok (.invokespecial idx, 3)) (hM : Makes cI cZ y rmy X (.ref a :: as) wc post mc ms)
    (hXb : ∀ U U' : State, U'.vm = U.vm → X U → X U') (hX : ∀ U : State, s.WarmedH U.vm → X U) (hC : isC.map (fun i => ws[i]?) = wc.map some) (hC2 : isC.filterMap (fun i => ws[i]?) = wc) (hnc : va_nd isC = true) (hR : isR.map (fun i => ws[i]?) = wr.map some) (hnr : va_nd isR = true) (hdis : ∀ i ∈ isR, i ∉ isC)
    (hy : gCal y) (hlk : va_Nw (.methodLinkNest m.1.cls idx y.1 host) s) (hinst : Cond.instanceMethod y.1 ∈ TB) (hname : y.1.name = "<init>") (hret : y.2.2.2 = none) (hnp : (parseMethodDescriptor y.1.desc).map (fun q => q.parameters.length) = some as.length) (hrc : rmy.cells = mc) (hrs : rmy.slots = ms) (hRo : rmy.frames + 1 ≤ R.frames ∧ 8 + (y.2.2.1 + 11) + rmy.locals ≤ R.locals)
    (hst : st0 = as.reverse ++ .ref a :: st) (hcat : Nat.ble (st.map fun v => v.category).sum 8 = true) (hroom : n + mc ≤ R.cells ∧ k + ms ≤ R.slots) (kk : ∀ w1, post w1 → Mz m R D A p l e s mi args below meth c Q (pc + 3) ls st (wr ++ w1) (n + mc) (k + ms)) : Mz m R D A p l e s mi args below meth c Q pc ls st0 ws n k := by
  intro H locs arr hP hD hS hl
  have hPc := hP.sub (ws' := wc) isC hC2
  have hDc := hD.sub (ws' := wc) isC hnc hC
  have hFc := va_free (wc := wc) hD hS C.2.2 isC hC
  subst hst
  refine va_callv (va_runIN (host := host) (As := as) (b := a) (rest := st) ⟨C.1.1, C.1.2.1, C.1.2.2.2.1, C.1.2.2.2.2.1, C.1.2.2.2.2.2.1⟩ (hM l D H.size) ⟨va_cnB (bytes := y.2.1) (maxL := y.2.2.1) (ret := none) (ws' := TB) as.length C.1.2.2.2.2.2.1 (gGood2 hy) (by unfold wsM; rw [hret]) hrc hrs hlk (C.1.2.2.2.2.2.1 _ hy.2.1) ⟨hy.2.2.1, hy.2.2.2, hnp⟩ hRo, hname, C.1.2.2.2.2.2.1 _ hinst⟩
    ⟨fun a U g mk q => by obtain ⟨q0, q1, qP, qK, qD, qX⟩ := q; exact ⟨q0, q1, qP, va_K.moved (u := U) (U := U.calling g mk a) (Vm.Alike.refl U.vm) qK, qD, hXb U (U.calling g mk a) rfl qX⟩, fun U hU hW => ⟨rfl, by rw [hU], by rw [hU]; exact hPc, va_K.moved hW.alike C.2.1, hDc.weaken (fun _ _ _ _ => trivial), hX U hW⟩⟩ rfl rfl hl.1 rfl (lv_room (Nat.le_of_ble_eq_true hcat)) hd hroom) hS (fun q _ h => hFc q h) hFc (fun u t H1 locs ht hvm hw hB hz1 hk1 hS => ?_)
  obtain ⟨hP1, hK1, hD1⟩ := hB
  rw [ht] at hP1
  obtain ⟨hP2, hD2⟩ := va_join (wr := wr) (w1 := u) hP hD isC isR hC hR hnr hdis hk1 hFc hP1 hD1
  exact kk u hw H1 locs arr hP2 hD2 hS hl
end MKZ
/-- a constructor's contract out of a walk of its body -/
theorem Makes.of {cI cZ : ClassId} {m : Me} {rm : Room} {X : State → Prop} {av : List Value} {w0 : va_W} {post : va_W → Prop} {mc ms : Nat} (hy : plainName m.1.cls = true) (hlen : (lg_sl av).length ≤ m.2.2.1)
    (kk : ∀ (l : Launch) (D : va_G) (A : Nat → Prop) (p : Program) (e : Env) (s : State) (mi : MethodId) (args : Array Value) (below : List Frame) (meth : Method) (c : Code), zC m D cI cZ A p s mi args meth c → meth.name = m.1.name → X s → Mz m rm D A p l e s mi args below meth c (MQ below (va_Qv post (zWB D cI cZ A) A) args s mc ms A) 0 (lv_args 0 av) [] w0 0 0) : Makes cI cZ m rm X av w0 post mc ms := by
  intro l D sz
  refine Met.ofW (cc := m.2.1) (maxL := m.2.2.1) (ret := m.2.2.2) hy rfl ?_
  intro p e s mi args' below meth c s₁ B hml hv
  obtain ⟨rfl, hsz, hP, hK, hD, hX⟩ := hv
  have hts := atoms_spec (ws := wsM m) B.pre
  rw [lg_entry_eq]
  subst hsz
  exact kk l D (va_A w0 s.heap.size) p e s mi _ below meth c ⟨⟨B.exec, B.bytes, B.returns, hml, findClass_of_methodNamed B.named, fun w hw => hts w (List.mem_cons_of_mem _ hw), B.notSynchronized⟩, hK, fun q h => Or.inr h⟩ (name_of_methodNamed B.named B.method).1 hX s.heap [] _ hP hD.self va_S.rf (lv_entry _ hlen)
