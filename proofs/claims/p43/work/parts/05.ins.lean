theorem g_iload_n {m : Me} {d : Nat} {Q : Po} {pc : Nat} {ls : Lv} {st : St} {M : Mm} {k : Fin 4} {x : Int32} (hd : decode m.2.1 pc = .ok (.iload_n k, 1)) (h : ls[k.val]? = some (some (.int x))) (kk : Go m d Q (pc + 1) ls (.int x :: st) M) : Go m d Q pc ls (st) M := by
  intro p l e s mi args below meth c G sz hF hK hS hz H locs arr hP hD hFr hl
  exact lv_iload_n hF.1 hF.2.1 hd rfl (lv_val (G := G) hl h) (kk p l e s mi args below meth c G sz hF hK hS hz H locs arr hP hD hFr hl)

theorem g_iload {m : Me} {d : Nat} {Q : Po} {pc : Nat} {ls : Lv} {st : St} {M : Mm} {k : Nat} {x : Int32} (hd : decode m.2.1 pc = .ok (.iload k, 2)) (h : ls[k]? = some (some (.int x))) (kk : Go m d Q (pc + 2) ls (.int x :: st) M) : Go m d Q pc ls (st) M := by
  intro p l e s mi args below meth c G sz hF hK hS hz H locs arr hP hD hFr hl
  exact lv_iload hF.1 hF.2.1 hd (lv_val (G := G) hl h) (kk p l e s mi args below meth c G sz hF hK hS hz H locs arr hP hD hFr hl)

theorem g_aload_n {m : Me} {d : Nat} {Q : Po} {pc : Nat} {ls : Lv} {st : St} {M : Mm} {k : Fin 4} {x : Nat} (hd : decode m.2.1 pc = .ok (.aload_n k, 1)) (h : ls[k.val]? = some (some (.ref x))) (kk : Go m d Q (pc + 1) ls (.ref x :: st) M) : Go m d Q pc ls (st) M := by
  intro p l e s mi args below meth c G sz hF hK hS hz H locs arr hP hD hFr hl
  exact lv_aload_n hF.1 hF.2.1 hd rfl (lv_val (G := G) hl h) (kk p l e s mi args below meth c G sz hF hK hS hz H locs arr hP hD hFr hl)

theorem g_lload_n {m : Me} {d : Nat} {Q : Po} {pc : Nat} {ls : Lv} {st : St} {M : Mm} {k : Fin 4} {x : Int64} (hd : decode m.2.1 pc = .ok (.lload_n k, 1)) (h : ls[k.val]? = some (some (.long x))) (kk : Go m d Q (pc + 1) ls (.long x :: st) M) : Go m d Q pc ls (st) M := by
  intro p l e s mi args below meth c G sz hF hK hS hz H locs arr hP hD hFr hl
  exact lv_lload_n hF.1 hF.2.1 hd rfl (lv_val (G := G) hl h) (kk p l e s mi args below meth c G sz hF hK hS hz H locs arr hP hD hFr hl)

theorem g_lload {m : Me} {d : Nat} {Q : Po} {pc : Nat} {ls : Lv} {st : St} {M : Mm} {k : Nat} {x : Int64} (hd : decode m.2.1 pc = .ok (.lload k, 2)) (h : ls[k]? = some (some (.long x))) (kk : Go m d Q (pc + 2) ls (.long x :: st) M) : Go m d Q pc ls (st) M := by
  intro p l e s mi args below meth c G sz hF hK hS hz H locs arr hP hD hFr hl
  exact lv_lload hF.1 hF.2.1 hd (lv_val (G := G) hl h) (kk p l e s mi args below meth c G sz hF hK hS hz H locs arr hP hD hFr hl)

theorem g_iconst {m : Me} {d : Nat} {Q : Po} {pc : Nat} {ls : Lv} {st : St} {M : Mm} (v : Int32) {n : Int} (hd : decode m.2.1 pc = .ok (.iconst n, 1)) (h : Int32.ofInt n = v) (kk : Go m d Q (pc + 1) ls (.int v :: st) M) : Go m d Q pc ls (st) M := by
  intro p l e s mi args below meth c G sz hF hK hS hz H locs arr hP hD hFr hl
  exact lv_iconst hF.1 hF.2.1 hd h (kk p l e s mi args below meth c G sz hF hK hS hz H locs arr hP hD hFr hl)

theorem g_bipush {m : Me} {d : Nat} {Q : Po} {pc : Nat} {ls : Lv} {st : St} {M : Mm} (v : Int32) {n : Int} (hd : decode m.2.1 pc = .ok (.bipush n, 2)) (h : (Int8.ofInt n).toInt32 = v) (kk : Go m d Q (pc + 2) ls (.int v :: st) M) : Go m d Q pc ls (st) M := by
  intro p l e s mi args below meth c G sz hF hK hS hz H locs arr hP hD hFr hl
  exact lv_bipush hF.1 hF.2.1 hd h (kk p l e s mi args below meth c G sz hF hK hS hz H locs arr hP hD hFr hl)

theorem g_sipush {m : Me} {d : Nat} {Q : Po} {pc : Nat} {ls : Lv} {st : St} {M : Mm} (v : Int32) {n : Int} (hd : decode m.2.1 pc = .ok (.sipush n, 3)) (h : (Int16.ofInt n).toInt32 = v) (kk : Go m d Q (pc + 3) ls (.int v :: st) M) : Go m d Q pc ls (st) M := by
  intro p l e s mi args below meth c G sz hF hK hS hz H locs arr hP hD hFr hl
  exact lv_sipush hF.1 hF.2.1 hd h (kk p l e s mi args below meth c G sz hF hK hS hz H locs arr hP hD hFr hl)

theorem g_lconst {m : Me} {d : Nat} {Q : Po} {pc : Nat} {ls : Lv} {st : St} {M : Mm} (v : Int64) {n : Fin 2} (hd : decode m.2.1 pc = .ok (.lconst n, 1)) (h : Int64.ofNat (n : Nat) = v) (kk : Go m d Q (pc + 1) ls (.long v :: st) M) : Go m d Q pc ls (st) M := by
  intro p l e s mi args below meth c G sz hF hK hS hz H locs arr hP hD hFr hl
  exact lv_lconst hF.1 hF.2.1 hd h (kk p l e s mi args below meth c G sz hF hK hS hz H locs arr hP hD hFr hl)

theorem g_ldcw {m : Me} {d : Nat} {Q : Po} {pc : Nat} {ls : Lv} {st : St} {M : Mm} (v : Int32) {i : Nat} (hd : decode m.2.1 pc = .ok (.ldc_w i, 3)) (h : Cond.constant m.1.cls i v ∈ TB) (kk : Go m d Q (pc + 3) ls (.int v :: st) M) : Go m d Q pc ls (st) M := by
  intro p l e s mi args below meth c G sz hF hK hS hz H locs arr hP hD hFr hl
  exact lv_ldcw hF.1 hF.2.1 hF.2.2.2.2.1 (hF.2.2.2.2.2.1 _ (List.mem_cons_of_mem _ h)) hd (kk p l e s mi args below meth c G sz hF hK hS hz H locs arr hP hD hFr hl)

theorem g_ldc2w {m : Me} {d : Nat} {Q : Po} {pc : Nat} {ls : Lv} {st : St} {M : Mm} (v : Int64) {i : Nat} (hd : decode m.2.1 pc = .ok (.ldc2_w i, 3)) (h : Cond.constantLong m.1.cls i v ∈ TB) (kk : Go m d Q (pc + 3) ls (.long v :: st) M) : Go m d Q pc ls (st) M := by
  intro p l e s mi args below meth c G sz hF hK hS hz H locs arr hP hD hFr hl
  exact lv_ldc2 hF.1 hF.2.1 hF.2.2.2.2.1 (hF.2.2.2.2.2.1 _ (List.mem_cons_of_mem _ h)) hd (kk p l e s mi args below meth c G sz hF hK hS hz H locs arr hP hD hFr hl)

theorem g_istore_n {m : Me} {d : Nat} {Q : Po} {pc : Nat} {ls : Lv} {st : St} {M : Mm} {k : Fin 4} {x : Int32} (hd : decode m.2.1 pc = .ok (.istore_n k, 1))  (hn : k.val < m.2.2.1) (ho : okL ls = true) (kk : Go m d Q (pc + 1) (ls.set k.val (some (.int x))) st M) : Go m d Q pc ls (.int x :: st) M := by
  intro p l e s mi args below meth c G sz hF hK hS hz H locs arr hP hD hFr hl
  exact lv_istore_n hF.1 hF.2.1 hd rfl hl hn rfl (fun arr hl => kk p l e s mi args below meth c G sz hF hK hS hz H locs arr hP hD hFr (lv_stored (okL_cat ho) hl))

theorem g_istore {m : Me} {d : Nat} {Q : Po} {pc : Nat} {ls : Lv} {st : St} {M : Mm} {k : Nat} {x : Int32} (hd : decode m.2.1 pc = .ok (.istore k, 2))  (hn : k < m.2.2.1) (ho : okL ls = true) (kk : Go m d Q (pc + 2) (ls.set k (some (.int x))) st M) : Go m d Q pc ls (.int x :: st) M := by
  intro p l e s mi args below meth c G sz hF hK hS hz H locs arr hP hD hFr hl
  exact lv_istore hF.1 hF.2.1 hd hl hn rfl (fun arr hl => kk p l e s mi args below meth c G sz hF hK hS hz H locs arr hP hD hFr (lv_stored (okL_cat ho) hl))

theorem g_astore_n {m : Me} {d : Nat} {Q : Po} {pc : Nat} {ls : Lv} {st : St} {M : Mm} {k : Fin 4} {x : Nat} (hd : decode m.2.1 pc = .ok (.astore_n k, 1))  (hn : k.val < m.2.2.1) (ho : okL ls = true) (kk : Go m d Q (pc + 1) (ls.set k.val (some (.ref x))) st M) : Go m d Q pc ls (.ref x :: st) M := by
  intro p l e s mi args below meth c G sz hF hK hS hz H locs arr hP hD hFr hl
  exact lv_astore_n hF.1 hF.2.1 hd rfl hl hn rfl (fun arr hl => kk p l e s mi args below meth c G sz hF hK hS hz H locs arr hP hD hFr (lv_stored (okL_cat ho) hl))

theorem g_iinc {m : Me} {d : Nat} {Q : Po} {pc : Nat} {ls : Lv} {st : St} {M : Mm} {i : Nat} {n : Int} {x : Int32} (w v : Int32) (hd : decode m.2.1 pc = .ok (.iinc i n, 3)) (hw : Int32.ofInt n = w) (h : ls[i]? = some (some (.int x))) (hv : x + w = v) (hn : i < m.2.2.1) (ho : okL ls = true) (kk : Go m d Q (pc + 3) (ls.set i (some (.int v))) st M) : Go m d Q pc ls st M := by
  intro p l e s mi args below meth c G sz hF hK hS hz H locs arr hP hD hFr hl
  obtain ⟨k, hk⟩ := List.getElem?_of_mem (lvl_mem (G := G) h)
  exact lv_iinc (v := v) hF.1 hF.2.1 hd hl hk (by rw [hw]; exact hv) hn rfl (fun arr hl => kk p l e s mi args below meth c G sz hF hK hS hz H locs arr hP hD hFr (lv_stored (G := G) (v := .int v) (okL_cat ho) hl))

theorem g_iadd {m : Me} {d : Nat} {Q : Po} {pc : Nat} {ls : Lv} {st : St} {M : Mm} {x y : Int32} (hd : decode m.2.1 pc = .ok (.iadd, 1))  (kk : Go m d Q (pc + 1) ls (.int (x + y) :: st) M) : Go m d Q pc ls (.int y :: .int x :: st) M := by
  intro p l e s mi args below meth c G sz hF hK hS hz H locs arr hP hD hFr hl
  exact lv_iadd hF.1 hF.2.1 hd (kk p l e s mi args below meth c G sz hF hK hS hz H locs arr hP hD hFr hl)

theorem g_isub {m : Me} {d : Nat} {Q : Po} {pc : Nat} {ls : Lv} {st : St} {M : Mm} {x y : Int32} (hd : decode m.2.1 pc = .ok (.isub, 1))  (kk : Go m d Q (pc + 1) ls (.int (x - y) :: st) M) : Go m d Q pc ls (.int y :: .int x :: st) M := by
  intro p l e s mi args below meth c G sz hF hK hS hz H locs arr hP hD hFr hl
  exact lv_isub hF.1 hF.2.1 hd (kk p l e s mi args below meth c G sz hF hK hS hz H locs arr hP hD hFr hl)

theorem g_imul {m : Me} {d : Nat} {Q : Po} {pc : Nat} {ls : Lv} {st : St} {M : Mm} {x y : Int32} (hd : decode m.2.1 pc = .ok (.imul, 1))  (kk : Go m d Q (pc + 1) ls (.int (x * y) :: st) M) : Go m d Q pc ls (.int y :: .int x :: st) M := by
  intro p l e s mi args below meth c G sz hF hK hS hz H locs arr hP hD hFr hl
  exact lv_imul hF.1 hF.2.1 hd (kk p l e s mi args below meth c G sz hF hK hS hz H locs arr hP hD hFr hl)

theorem g_iand {m : Me} {d : Nat} {Q : Po} {pc : Nat} {ls : Lv} {st : St} {M : Mm} {x y : Int32} (hd : decode m.2.1 pc = .ok (.iand, 1))  (kk : Go m d Q (pc + 1) ls (.int (x &&& y) :: st) M) : Go m d Q pc ls (.int y :: .int x :: st) M := by
  intro p l e s mi args below meth c G sz hF hK hS hz H locs arr hP hD hFr hl
  exact lv_iand hF.1 hF.2.1 hd (kk p l e s mi args below meth c G sz hF hK hS hz H locs arr hP hD hFr hl)

theorem g_ior {m : Me} {d : Nat} {Q : Po} {pc : Nat} {ls : Lv} {st : St} {M : Mm} {x y : Int32} (hd : decode m.2.1 pc = .ok (.ior, 1))  (kk : Go m d Q (pc + 1) ls (.int (x ||| y) :: st) M) : Go m d Q pc ls (.int y :: .int x :: st) M := by
  intro p l e s mi args below meth c G sz hF hK hS hz H locs arr hP hD hFr hl
  exact lv_ior hF.1 hF.2.1 hd (kk p l e s mi args below meth c G sz hF hK hS hz H locs arr hP hD hFr hl)

theorem g_ishl {m : Me} {d : Nat} {Q : Po} {pc : Nat} {ls : Lv} {st : St} {M : Mm} {x y : Int32} (hd : decode m.2.1 pc = .ok (.ishl, 1))  (kk : Go m d Q (pc + 1) ls (.int (x <<< (y &&& 31)) :: st) M) : Go m d Q pc ls (.int y :: .int x :: st) M := by
  intro p l e s mi args below meth c G sz hF hK hS hz H locs arr hP hD hFr hl
  exact lv_ishl hF.1 hF.2.1 hd (kk p l e s mi args below meth c G sz hF hK hS hz H locs arr hP hD hFr hl)

theorem g_ishr {m : Me} {d : Nat} {Q : Po} {pc : Nat} {ls : Lv} {st : St} {M : Mm} {x y : Int32} (hd : decode m.2.1 pc = .ok (.ishr, 1))  (kk : Go m d Q (pc + 1) ls (.int (x >>> (y &&& 31)) :: st) M) : Go m d Q pc ls (.int y :: .int x :: st) M := by
  intro p l e s mi args below meth c G sz hF hK hS hz H locs arr hP hD hFr hl
  exact lv_ishr hF.1 hF.2.1 hd (kk p l e s mi args below meth c G sz hF hK hS hz H locs arr hP hD hFr hl)

theorem g_idiv {m : Me} {d : Nat} {Q : Po} {pc : Nat} {ls : Lv} {st : St} {M : Mm} {x y : Int32} (hd : decode m.2.1 pc = .ok (.idiv, 1)) (hne : ¬ y = 0) (kk : Go m d Q (pc + 1) ls (.int (x / y) :: st) M) : Go m d Q pc ls (.int y :: .int x :: st) M := by
  intro p l e s mi args below meth c G sz hF hK hS hz H locs arr hP hD hFr hl
  exact lv_idiv hF.1 hF.2.1 hd hne (kk p l e s mi args below meth c G sz hF hK hS hz H locs arr hP hD hFr hl)

theorem g_irem {m : Me} {d : Nat} {Q : Po} {pc : Nat} {ls : Lv} {st : St} {M : Mm} {x y : Int32} (hd : decode m.2.1 pc = .ok (.irem, 1)) (hne : ¬ y = 0) (kk : Go m d Q (pc + 1) ls (.int (x - (x / y) * y) :: st) M) : Go m d Q pc ls (.int y :: .int x :: st) M := by
  intro p l e s mi args below meth c G sz hF hK hS hz H locs arr hP hD hFr hl
  exact lv_irem hF.1 hF.2.1 hd hne (kk p l e s mi args below meth c G sz hF hK hS hz H locs arr hP hD hFr hl)

theorem g_i2l {m : Me} {d : Nat} {Q : Po} {pc : Nat} {ls : Lv} {st : St} {M : Mm} {x : Int32} (hd : decode m.2.1 pc = .ok (.i2l, 1))  (kk : Go m d Q (pc + 1) ls (.long x.toInt64 :: st) M) : Go m d Q pc ls (.int x :: st) M := by
  intro p l e s mi args below meth c G sz hF hK hS hz H locs arr hP hD hFr hl
  exact lv_i2l hF.1 hF.2.1 hd rfl (kk p l e s mi args below meth c G sz hF hK hS hz H locs arr hP hD hFr hl)

theorem g_lcmp {m : Me} {d : Nat} {Q : Po} {pc : Nat} {ls : Lv} {st : St} {M : Mm} {x y : Int64} (hd : decode m.2.1 pc = .ok (.lcmp, 1))  (kk : Go m d Q (pc + 1) ls (.int (lg_cmp x y) :: st) M) : Go m d Q pc ls (.long y :: .long x :: st) M := by
  intro p l e s mi args below meth c G sz hF hK hS hz H locs arr hP hD hFr hl
  exact W.lcmp hF.1 hF.2.1 hd (kk p l e s mi args below meth c G sz hF hK hS hz H locs arr hP hD hFr hl)

theorem g_dup {m : Me} {d : Nat} {Q : Po} {pc : Nat} {ls : Lv} {st : St} {M : Mm} {v : Value} (hd : decode m.2.1 pc = .ok (.dup, 1)) (hv : v.category = 1) (kk : Go m d Q (pc + 1) ls (v :: v :: st) M) : Go m d Q pc ls (v :: st) M := by
  intro p l e s mi args below meth c G sz hF hK hS hz H locs arr hP hD hFr hl
  exact lv_dup hF.1 hF.2.1 hd (by rw [cv_cat]; exact hv) (kk p l e s mi args below meth c G sz hF hK hS hz H locs arr hP hD hFr hl)

theorem g_pop {m : Me} {d : Nat} {Q : Po} {pc : Nat} {ls : Lv} {st : St} {M : Mm} {v : Value} (hd : decode m.2.1 pc = .ok (.pop, 1)) (hv : v.category = 1) (kk : Go m d Q (pc + 1) ls (st) M) : Go m d Q pc ls (v :: st) M := by
  intro p l e s mi args below meth c G sz hF hK hS hz H locs arr hP hD hFr hl
  exact lv_pop hF.1 hF.2.1 hd (by rw [cv_cat]; exact hv) (kk p l e s mi args below meth c G sz hF hK hS hz H locs arr hP hD hFr hl)

theorem g_icmp_eq {m : Me} {d : Nat} {Q : Po} {pc : Nat} {ls : Lv} {st : St} {M : Mm} {x y : Int32} {off : Int} (tgt : Nat) (hd : decode m.2.1 pc = .ok (.if_icmp .eq off, 3)) (ht : (pc : Int) + off = (tgt : Int)) (kt : x = y → Go m d Q tgt ls st M) (kf : ¬ x = y → Go m d Q (pc + 3) ls st M) : Go m d Q pc ls (.int y :: .int x :: st) M := by
  intro p l e s mi args below meth c G sz hF hK hS hz H locs arr hP hD hFr hl
  exact lv_icmp_eq hF.1 hF.2.1 hd ht (fun h => kt h p l e s mi args below meth c G sz hF hK hS hz H locs arr hP hD hFr hl) (fun h => kf h p l e s mi args below meth c G sz hF hK hS hz H locs arr hP hD hFr hl)

theorem g_if_eq {m : Me} {d : Nat} {Q : Po} {pc : Nat} {ls : Lv} {st : St} {M : Mm} {x : Int32} {off : Int} (tgt : Nat) (hd : decode m.2.1 pc = .ok (.ifCond .eq off, 3)) (ht : (pc : Int) + off = (tgt : Int)) (kt : x = 0 → Go m d Q tgt ls st M) (kf : ¬ x = 0 → Go m d Q (pc + 3) ls st M) : Go m d Q pc ls (.int x :: st) M := by
  intro p l e s mi args below meth c G sz hF hK hS hz H locs arr hP hD hFr hl
  exact lv_if_eq hF.1 hF.2.1 hd ht (fun h => kt h p l e s mi args below meth c G sz hF hK hS hz H locs arr hP hD hFr hl) (fun h => kf h p l e s mi args below meth c G sz hF hK hS hz H locs arr hP hD hFr hl)

theorem g_icmp_ne {m : Me} {d : Nat} {Q : Po} {pc : Nat} {ls : Lv} {st : St} {M : Mm} {x y : Int32} {off : Int} (tgt : Nat) (hd : decode m.2.1 pc = .ok (.if_icmp .ne off, 3)) (ht : (pc : Int) + off = (tgt : Int)) (kt : ¬ x = y → Go m d Q tgt ls st M) (kf : x = y → Go m d Q (pc + 3) ls st M) : Go m d Q pc ls (.int y :: .int x :: st) M := by
  intro p l e s mi args below meth c G sz hF hK hS hz H locs arr hP hD hFr hl
  exact lv_icmp_ne hF.1 hF.2.1 hd ht (fun h => kt h p l e s mi args below meth c G sz hF hK hS hz H locs arr hP hD hFr hl) (fun h => kf h p l e s mi args below meth c G sz hF hK hS hz H locs arr hP hD hFr hl)

theorem g_if_ne {m : Me} {d : Nat} {Q : Po} {pc : Nat} {ls : Lv} {st : St} {M : Mm} {x : Int32} {off : Int} (tgt : Nat) (hd : decode m.2.1 pc = .ok (.ifCond .ne off, 3)) (ht : (pc : Int) + off = (tgt : Int)) (kt : ¬ x = 0 → Go m d Q tgt ls st M) (kf : x = 0 → Go m d Q (pc + 3) ls st M) : Go m d Q pc ls (.int x :: st) M := by
  intro p l e s mi args below meth c G sz hF hK hS hz H locs arr hP hD hFr hl
  exact lv_if_ne hF.1 hF.2.1 hd ht (fun h => kt h p l e s mi args below meth c G sz hF hK hS hz H locs arr hP hD hFr hl) (fun h => kf h p l e s mi args below meth c G sz hF hK hS hz H locs arr hP hD hFr hl)

theorem g_icmp_lt {m : Me} {d : Nat} {Q : Po} {pc : Nat} {ls : Lv} {st : St} {M : Mm} {x y : Int32} {off : Int} (tgt : Nat) (hd : decode m.2.1 pc = .ok (.if_icmp .lt off, 3)) (ht : (pc : Int) + off = (tgt : Int)) (kt : x < y → Go m d Q tgt ls st M) (kf : ¬ x < y → Go m d Q (pc + 3) ls st M) : Go m d Q pc ls (.int y :: .int x :: st) M := by
  intro p l e s mi args below meth c G sz hF hK hS hz H locs arr hP hD hFr hl
  exact lv_icmp_lt hF.1 hF.2.1 hd ht (fun h => kt h p l e s mi args below meth c G sz hF hK hS hz H locs arr hP hD hFr hl) (fun h => kf h p l e s mi args below meth c G sz hF hK hS hz H locs arr hP hD hFr hl)

theorem g_if_lt {m : Me} {d : Nat} {Q : Po} {pc : Nat} {ls : Lv} {st : St} {M : Mm} {x : Int32} {off : Int} (tgt : Nat) (hd : decode m.2.1 pc = .ok (.ifCond .lt off, 3)) (ht : (pc : Int) + off = (tgt : Int)) (kt : x < 0 → Go m d Q tgt ls st M) (kf : ¬ x < 0 → Go m d Q (pc + 3) ls st M) : Go m d Q pc ls (.int x :: st) M := by
  intro p l e s mi args below meth c G sz hF hK hS hz H locs arr hP hD hFr hl
  exact lv_if_lt hF.1 hF.2.1 hd ht (fun h => kt h p l e s mi args below meth c G sz hF hK hS hz H locs arr hP hD hFr hl) (fun h => kf h p l e s mi args below meth c G sz hF hK hS hz H locs arr hP hD hFr hl)

theorem g_icmp_ge {m : Me} {d : Nat} {Q : Po} {pc : Nat} {ls : Lv} {st : St} {M : Mm} {x y : Int32} {off : Int} (tgt : Nat) (hd : decode m.2.1 pc = .ok (.if_icmp .ge off, 3)) (ht : (pc : Int) + off = (tgt : Int)) (kt : y ≤ x → Go m d Q tgt ls st M) (kf : ¬ y ≤ x → Go m d Q (pc + 3) ls st M) : Go m d Q pc ls (.int y :: .int x :: st) M := by
  intro p l e s mi args below meth c G sz hF hK hS hz H locs arr hP hD hFr hl
  exact lv_icmp_ge hF.1 hF.2.1 hd ht (fun h => kt h p l e s mi args below meth c G sz hF hK hS hz H locs arr hP hD hFr hl) (fun h => kf h p l e s mi args below meth c G sz hF hK hS hz H locs arr hP hD hFr hl)

theorem g_if_ge {m : Me} {d : Nat} {Q : Po} {pc : Nat} {ls : Lv} {st : St} {M : Mm} {x : Int32} {off : Int} (tgt : Nat) (hd : decode m.2.1 pc = .ok (.ifCond .ge off, 3)) (ht : (pc : Int) + off = (tgt : Int)) (kt : 0 ≤ x → Go m d Q tgt ls st M) (kf : ¬ 0 ≤ x → Go m d Q (pc + 3) ls st M) : Go m d Q pc ls (.int x :: st) M := by
  intro p l e s mi args below meth c G sz hF hK hS hz H locs arr hP hD hFr hl
  exact lv_if_ge hF.1 hF.2.1 hd ht (fun h => kt h p l e s mi args below meth c G sz hF hK hS hz H locs arr hP hD hFr hl) (fun h => kf h p l e s mi args below meth c G sz hF hK hS hz H locs arr hP hD hFr hl)

theorem g_icmp_gt {m : Me} {d : Nat} {Q : Po} {pc : Nat} {ls : Lv} {st : St} {M : Mm} {x y : Int32} {off : Int} (tgt : Nat) (hd : decode m.2.1 pc = .ok (.if_icmp .gt off, 3)) (ht : (pc : Int) + off = (tgt : Int)) (kt : y < x → Go m d Q tgt ls st M) (kf : ¬ y < x → Go m d Q (pc + 3) ls st M) : Go m d Q pc ls (.int y :: .int x :: st) M := by
  intro p l e s mi args below meth c G sz hF hK hS hz H locs arr hP hD hFr hl
  exact lv_icmp_gt hF.1 hF.2.1 hd ht (fun h => kt h p l e s mi args below meth c G sz hF hK hS hz H locs arr hP hD hFr hl) (fun h => kf h p l e s mi args below meth c G sz hF hK hS hz H locs arr hP hD hFr hl)

theorem g_if_gt {m : Me} {d : Nat} {Q : Po} {pc : Nat} {ls : Lv} {st : St} {M : Mm} {x : Int32} {off : Int} (tgt : Nat) (hd : decode m.2.1 pc = .ok (.ifCond .gt off, 3)) (ht : (pc : Int) + off = (tgt : Int)) (kt : 0 < x → Go m d Q tgt ls st M) (kf : ¬ 0 < x → Go m d Q (pc + 3) ls st M) : Go m d Q pc ls (.int x :: st) M := by
  intro p l e s mi args below meth c G sz hF hK hS hz H locs arr hP hD hFr hl
  exact lv_if_gt hF.1 hF.2.1 hd ht (fun h => kt h p l e s mi args below meth c G sz hF hK hS hz H locs arr hP hD hFr hl) (fun h => kf h p l e s mi args below meth c G sz hF hK hS hz H locs arr hP hD hFr hl)

theorem g_icmp_le {m : Me} {d : Nat} {Q : Po} {pc : Nat} {ls : Lv} {st : St} {M : Mm} {x y : Int32} {off : Int} (tgt : Nat) (hd : decode m.2.1 pc = .ok (.if_icmp .le off, 3)) (ht : (pc : Int) + off = (tgt : Int)) (kt : x ≤ y → Go m d Q tgt ls st M) (kf : ¬ x ≤ y → Go m d Q (pc + 3) ls st M) : Go m d Q pc ls (.int y :: .int x :: st) M := by
  intro p l e s mi args below meth c G sz hF hK hS hz H locs arr hP hD hFr hl
  exact lv_icmp_le hF.1 hF.2.1 hd ht (fun h => kt h p l e s mi args below meth c G sz hF hK hS hz H locs arr hP hD hFr hl) (fun h => kf h p l e s mi args below meth c G sz hF hK hS hz H locs arr hP hD hFr hl)

theorem g_if_le {m : Me} {d : Nat} {Q : Po} {pc : Nat} {ls : Lv} {st : St} {M : Mm} {x : Int32} {off : Int} (tgt : Nat) (hd : decode m.2.1 pc = .ok (.ifCond .le off, 3)) (ht : (pc : Int) + off = (tgt : Int)) (kt : x ≤ 0 → Go m d Q tgt ls st M) (kf : ¬ x ≤ 0 → Go m d Q (pc + 3) ls st M) : Go m d Q pc ls (.int x :: st) M := by
  intro p l e s mi args below meth c G sz hF hK hS hz H locs arr hP hD hFr hl
  exact lv_if_le hF.1 hF.2.1 hd ht (fun h => kt h p l e s mi args below meth c G sz hF hK hS hz H locs arr hP hD hFr hl) (fun h => kf h p l e s mi args below meth c G sz hF hK hS hz H locs arr hP hD hFr hl)

theorem g_goto {m : Me} {d : Nat} {Q : Po} {pc : Nat} {ls : Lv} {st : St} {M : Mm} {off : Int} (tgt : Nat) (hd : decode m.2.1 pc = .ok (.goto off, 3)) (ht : (pc : Int) + off = (tgt : Int)) (kk : Go m d Q tgt ls st M) : Go m d Q pc ls st M := by
  intro p l e s mi args below meth c G sz hF hK hS hz H locs arr hP hD hFr hl
  exact lv_goto hF.1 hF.2.1 hd ht (kk p l e s mi args below meth c G sz hF hK hS hz H locs arr hP hD hFr hl)

theorem g_tswI {m : Me} {d : Nat} {Q : Po} {pc : Nat} {ls : Lv} {st : St} {M : Mm} {dflt lo hi : Int} {offs : Array Int} {len : Nat} {x : Int32} {off : Int} (tgt : Nat) (hd : decode m.2.1 pc = .ok (.tableswitch dflt lo hi offs, len)) (h1 : ¬ x.toInt < lo) (h2 : ¬ hi < x.toInt) (ho : offs[(x.toInt - lo).toNat]? = some off) (ht : (pc : Int) + off = (tgt : Int)) (kk : Go m d Q tgt ls st M) : Go m d Q pc ls (.int x :: st) M := by
  intro p l e s mi args below meth c G sz hF hK hS hz H locs arr hP hD hFr hl
  exact lv_tableIn hF.1 hF.2.1 hd h1 h2 ho ht (kk p l e s mi args below meth c G sz hF hK hS hz H locs arr hP hD hFr hl)

theorem g_tswO {m : Me} {d : Nat} {Q : Po} {pc : Nat} {ls : Lv} {st : St} {M : Mm} {dflt lo hi : Int} {offs : Array Int} {len : Nat} {x : Int32} (tgt : Nat) (hd : decode m.2.1 pc = .ok (.tableswitch dflt lo hi offs, len)) (h : x.toInt < lo ∨ hi < x.toInt) (ht : (pc : Int) + dflt = (tgt : Int)) (kk : Go m d Q tgt ls st M) : Go m d Q pc ls (.int x :: st) M := by
  intro p l e s mi args below meth c G sz hF hK hS hz H locs arr hP hD hFr hl
  exact lv_tableOut hF.1 hF.2.1 hd h ht (kk p l e s mi args below meth c G sz hF hK hS hz H locs arr hP hD hFr hl)

/-- a class of the list: its tables -/
def gCl (ci : Nat) (C : String) (T : u_T) (N : Nat) : Prop := vwCl[ci]? = some (C, T, N) ∧ (∀ w ∈ u_ws C T N, w ∈ TB) ∧ (∀ a, a < N → ∀ b, b < N → a ≠ b → (T a).2.1 ≠ (T b).2.1) ∧ ∃ ty : Nat → FieldType, ∀ k, k < N → parseFieldDescriptor (T k).2.2.1 = some (ty k)
theorem fEnt_at (G : GG) (M : Mm) (k : Nat) {fs : List (Option Nat)} {j : Nat} (h : fs[j]? = some none) : (fEnt G M k fs)[j]? = some (.int (M k j)) := by
  unfold fEnt
  rw [List.getElem?_mapIdx, h]
  rfl
theorem fEnt_ref (G : GG) (M : Mm) (k : Nat) {fs : List (Option Nat)} {j r : Nat} (h : fs[j]? = some (some r)) : (fEnt G M k fs)[j]? = some (.ref (G.1 r)) := by
  unfold fEnt
  rw [List.getElem?_mapIdx, h]
  rfl
theorem fEnt_set (G : GG) (M : Mm) (k : Nat) {fs : List (Option Nat)} {j : Nat} (v : Int32) (h : fs[j]? = some none) : (fEnt G M k fs).set j (.int v) = fEnt G (mset M k j v) k fs := by
  apply List.ext_getElem?
  intro i
  unfold fEnt
  have hj : j < fs.length := (List.getElem?_eq_some_iff.mp h).1
  by_cases hi : i = j
  · subst hi
    rw [List.getElem?_set_self (by simpa using hj), List.getElem?_mapIdx, h]
    simp [mset_same, upd]
  · rw [List.getElem?_set_ne (Ne.symm hi), List.getElem?_mapIdx, List.getElem?_mapIdx]
    cases fs[i]? with
    | none => rfl
    | some o => cases o <;> simp [mset_same, upd, hi]

theorem g_geti {m : Me} {d : Nat} {Q : Po} {pc : Nat} {ls : Lv} {st : St} {M : Mm} {ci N k j idx : Nat} {C : String} {T : u_T} {fs : List (Option Nat)} (hd : decode m.2.1 pc = .ok (.getfield idx, 3)) (hc : gCl ci C T N) (hs : sh k = .inr (ci, fs)) (hk : k < NN) (hf : fs[j]? = some none) (hj : j < N) (hlk : Cond.fieldLink m.1.cls idx (T j).1 (T j).2.1 (T j).2.2.1 ∈ TB) (kk : Go m d Q (pc + 3) ls (.int (M k j) :: st) M) : Go m d Q pc ls (.ref k :: st) M := by
  intro p l e s mi args below meth c G sz hF hK hS hz H locs arr hP hD hFr hl
  have he := wl_get G M hk
  rw [hs] at he
  exact va_get (D := gD G) (ci := ci) (v := .int (M k j)) (C := C) (T := T) (N := N) hF.1 hF.2.1 hF.2.2.2.2.2.1 (fun w h => List.mem_cons_of_mem _ (hc.2.1 w h)) hF.2.2.2.2.1 hK hP k he hc.1 j hj (hF.2.2.2.2.2.1 _ (List.mem_cons_of_mem _ hlk)) (fun _ h9 => h9) (fEnt_at G M k hf) hd (kk p l e s mi args below meth c G sz hF hK hS hz H locs arr hP hD hFr hl)

theorem g_getr {m : Me} {d : Nat} {Q : Po} {pc : Nat} {ls : Lv} {st : St} {M : Mm} {ci N k j idx : Nat} {C : String} {T : u_T} {fs : List (Option Nat)} {r : Nat} (hd : decode m.2.1 pc = .ok (.getfield idx, 3)) (hc : gCl ci C T N) (hs : sh k = .inr (ci, fs)) (hk : k < NN) (hf : fs[j]? = some (some r)) (hj : j < N) (hlk : Cond.fieldLink m.1.cls idx (T j).1 (T j).2.1 (T j).2.2.1 ∈ TB) (kk : Go m d Q (pc + 3) ls (.ref r :: st) M) : Go m d Q pc ls (.ref k :: st) M := by
  intro p l e s mi args below meth c G sz hF hK hS hz H locs arr hP hD hFr hl
  have he := wl_get G M hk
  rw [hs] at he
  exact va_get (D := gD G) (ci := ci) (v := .ref (G.1 r)) (C := C) (T := T) (N := N) hF.1 hF.2.1 hF.2.2.2.2.2.1 (fun w h => List.mem_cons_of_mem _ (hc.2.1 w h)) hF.2.2.2.2.1 hK hP k he hc.1 j hj (hF.2.2.2.2.2.1 _ (List.mem_cons_of_mem _ hlk)) (fun _ h9 => h9) (fEnt_ref G M k hf) hd (kk p l e s mi args below meth c G sz hF hK hS hz H locs arr hP hD hFr hl)

theorem g_puti {m : Me} {d : Nat} {Q : Po} {pc : Nat} {ls : Lv} {st : St} {M : Mm} {ci N k j idx : Nat} {C : String} {T : u_T} {fs : List (Option Nat)} {ty : FieldType} {x : Int32} (hd : decode m.2.1 pc = .ok (.putfield idx, 3)) (hc : gCl ci C T N) (hs : sh k = .inr (ci, fs)) (hk : k < NN) (hf : fs[j]? = some none) (hj : j < N) (hlk : Cond.fieldLink m.1.cls idx (T j).1 (T j).2.1 (T j).2.2.1 ∈ TB) (hfin : (T j).2.2.2 = false) (hp : parseFieldDescriptor (T j).2.2.1 = some ty) (hn : narrow ty (.int x) = .int x) (hfit : fits ty (.int x) = true) (kk : Go m d Q (pc + 3) ls st (mset M k j x)) : Go m d Q pc ls (.int x :: .ref k :: st) M := by
  intro p l e s mi args below meth c G sz hF hK hS hz H locs arr hP hD hFr hl
  have he := wl_get G M hk
  rw [hs] at he
  obtain ⟨ty0, hty0⟩ := hc.2.2.2
  have hw : (wl G M).set k (G.1 k, .inr (ci, (fEnt G M k fs).set j (.int x))) = wl G (mset M k j x) := by
    rw [fEnt_set G M k x hf, ← wl_set G M (mset M k j x) hk (fun a ha => mset_ne ha), hs]
    rfl
  refine va_put (D := gD G) (ci := ci) (v := .int x) (ty := ty) (C := C) (T := T) (N := N) hF.1 hF.2.1 hF.2.2.2.2.2.1 (fun w h => List.mem_cons_of_mem _ (hc.2.1 w h)) ty0 hty0 hc.2.2.1 hF.2.2.2.2.1 hK hP hD hFr k he hc.1 j hj (hF.2.2.2.2.2.1 _ (List.mem_cons_of_mem _ hlk)) (fun _ h9 => h9) hfin hp hn hfit (by have := (List.getElem?_eq_some_iff.mp hf).1; simpa [fEnt] using this) hd (fun H1 locs1 hP1 hD1 hS1 => ?_)
  rw [hw] at hP1 hD1
  exact kk p l e s mi args below meth c G sz hF hK hS hz H1 locs1 arr hP1 hD1 hS1 hl

theorem g_iald {m : Me} {d : Nat} {Q : Po} {pc : Nat} {ls : Lv} {st : St} {M : Mm} {k n : Nat} {i : Int32} (hd : decode m.2.1 pc = .ok (.iaload, 1)) (hs : sh k = .inl (false, n)) (hk : k < NN) (hi : vp_in i n) (kk : Go m d Q (pc + 1) ls (.int (M k i.toNatClampNeg) :: st) M) : Go m d Q pc ls (.int i :: .ref k :: st) M := by
  intro p l e s mi args below meth c G sz hF hK hS hz H locs arr hP hD hFr hl
  have he := wl_get G M hk
  rw [hs] at he
  exact va_iald (D := gD G) hF.1 hF.2.1 hK hP k 0 (cA := G.2.2.2.1) (n := n) (f := M k) he rfl hi hd (kk p l e s mi args below meth c G sz hF hK hS hz H locs arr hP hD hFr hl)

theorem g_bald {m : Me} {d : Nat} {Q : Po} {pc : Nat} {ls : Lv} {st : St} {M : Mm} {k n : Nat} {i : Int32} (hd : decode m.2.1 pc = .ok (.baload, 1)) (hs : sh k = .inl (true, n)) (hk : k < NN) (hi : vp_in i n) (kk : Go m d Q (pc + 1) ls (.int (M k i.toNatClampNeg) :: st) M) : Go m d Q pc ls (.int i :: .ref k :: st) M := by
  intro p l e s mi args below meth c G sz hF hK hS hz H locs arr hP hD hFr hl
  have he := wl_get G M hk
  rw [hs] at he
  exact va_zald (D := gD G) hF.1 hF.2.1 hK hP k 1 (cA := G.2.2.2.2) (n := n) (f := M k) he rfl hi hd (kk p l e s mi args below meth c G sz hF hK hS hz H locs arr hP hD hFr hl)

theorem g_iast {m : Me} {d : Nat} {Q : Po} {pc : Nat} {ls : Lv} {st : St} {M : Mm} {k n : Nat} {i : Int32} {x : Int32} (hd : decode m.2.1 pc = .ok (.iastore, 1)) (hs : sh k = .inl (false, n)) (hk : k < NN) (hi : vp_in i n) (kk : Go m d Q (pc + 1) ls st (mset M k i.toNatClampNeg (x))) : Go m d Q pc ls (.int x :: .int i :: .ref k :: st) M := by
  intro p l e s mi args below meth c G sz hF hK hS hz H locs arr hP hD hFr hl
  have he := wl_get G M hk
  rw [hs] at he
  have hw : (wl G M).set k (G.1 k, .inl (G.2.2.2.1, n, .inl (upd (M k) i.toNatClampNeg (x)))) = wl G (mset M k i.toNatClampNeg (x)) := by
    rw [← wl_set G M (mset M k i.toNatClampNeg (x)) hk (fun a ha => mset_ne ha), hs]
    simp only [sEnt, mset_same]
    rfl
  refine va_iast (D := gD G) hF.1 hF.2.1 hK hP hD hFr k 0 (cA := G.2.2.2.1) (n := n) (f := M k) he rfl hi hd (fun H1 locs1 hP1 hD1 hS1 => ?_)
  rw [hw] at hP1 hD1
  exact kk p l e s mi args below meth c G sz hF hK hS hz H1 locs1 arr hP1 hD1 hS1 hl

theorem g_bast {m : Me} {d : Nat} {Q : Po} {pc : Nat} {ls : Lv} {st : St} {M : Mm} {k n : Nat} {i : Int32} {x : Int32} (hd : decode m.2.1 pc = .ok (.bastore, 1)) (hs : sh k = .inl (true, n)) (hk : k < NN) (hi : vp_in i n) (kk : Go m d Q (pc + 1) ls st (mset M k i.toNatClampNeg (vp_nar .boolean x))) : Go m d Q pc ls (.int x :: .int i :: .ref k :: st) M := by
  intro p l e s mi args below meth c G sz hF hK hS hz H locs arr hP hD hFr hl
  have he := wl_get G M hk
  rw [hs] at he
  have hw : (wl G M).set k (G.1 k, .inl (G.2.2.2.2, n, .inl (upd (M k) i.toNatClampNeg (vp_nar .boolean x)))) = wl G (mset M k i.toNatClampNeg (vp_nar .boolean x)) := by
    rw [← wl_set G M (mset M k i.toNatClampNeg (vp_nar .boolean x)) hk (fun a ha => mset_ne ha), hs]
    simp only [sEnt, mset_same]
    rfl
  refine va_zast (D := gD G) hF.1 hF.2.1 hK hP hD hFr k 1 (cA := G.2.2.2.2) (n := n) (f := M k) he rfl hi hd (fun H1 locs1 hP1 hD1 hS1 => ?_)
  rw [hw] at hP1 hD1
  exact kk p l e s mi args below meth c G sz hF hK hS hz H1 locs1 arr hP1 hD1 hS1 hl

