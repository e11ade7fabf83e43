/-! decode, by the bytes -/
def bz1 (c : ByteArray) (k b : Nat) : Bool := match c.data.toList.drop k with
  | p :: _ => Nat.beq p.toNat b
  | [] => false
def bz2 (c : ByteArray) (k b x : Nat) : Bool := match c.data.toList.drop k with
  | p :: q :: _ => Nat.beq p.toNat b && Nat.beq q.toNat x
  | _ => false
def bz2s (c : ByteArray) (k b : Nat) (z : Int) : Bool := match c.data.toList.drop k with
  | p :: q :: _ => Nat.beq p.toNat b && decide (Reader.signed 8 q.toNat = z)
  | _ => false
def bz3 (c : ByteArray) (k b x : Nat) : Bool := match c.data.toList.drop k with
  | p :: q :: r :: _ => Nat.beq p.toNat b && Nat.beq (q.toNat * 256 + r.toNat) x
  | _ => false
def bz3s (c : ByteArray) (k b : Nat) (z : Int) : Bool := match c.data.toList.drop k with
  | p :: q :: r :: _ => Nat.beq p.toNat b && decide (Reader.signed 16 (q.toNat * 256 + r.toNat) = z)
  | _ => false
def bz3i (c : ByteArray) (k b x : Nat) (z : Int) : Bool := match c.data.toList.drop k with
  | p :: q :: r :: _ => Nat.beq p.toNat b && (Nat.beq q.toNat x && decide (Reader.signed 8 r.toNat = z))
  | _ => false
theorem bz_at {c : ByteArray} {k : Nat} {p : UInt8} {r : List UInt8} (h : c.data.toList.drop k = p :: r) : (Reader.u1 : Decoder Nat) c k = .ok (p.toNat, k + 1) ∧ c.data.toList.drop (k + 1) = r := by
  have hl : k < c.data.toList.length := by
    apply Nat.lt_of_not_le
    intro hn
    rw [List.drop_eq_nil_of_le hn] at h
    cases h
  rw [List.drop_eq_getElem_cons hl] at h
  injection h with h1 h2
  have hk : k < c.size := hl
  refine ⟨?_, h2⟩
  have h3 : c[k] = p := h1
  have e : (Reader.u1 : Decoder Nat) c k = (if h : k < c.size then Except.ok (c[k].toNat, k + 1) else Except.error (HasTruncated.truncated k)) := by
    show (if h : k < c.size then (do set (k + 1); Pure.pure c[k].toNat : Decoder Nat) else throw (HasTruncated.truncated k)) c k = _
    split <;> rfl
  rw [e, dif_pos hk, h3]
theorem bz_bind {α β : Type} {x : Decoder α} {f : α → Decoder β} {c : ByteArray} {k s : Nat} {a : α} (h : x c k = .ok (a, s)) : (x >>= f) c k = f a c s := by
  have e : (x >>= f) c k = Except.bind (x c k) (fun q => f q.1 c q.2) := rfl
  rw [e, h]
  rfl
theorem bz_map {α β : Type} {x : Decoder α} {f : α → β} {c : ByteArray} {k s : Nat} {a : α} (h : x c k = .ok (a, s)) : (f <$> x) c k = .ok (f a, s) := by
  have e : (f <$> x) c k = Except.bind (x c k) (fun q => Except.ok (f q.1, q.2)) := rfl
  rw [e, h]
  rfl
theorem bz_fin {c : ByteArray} {pc n : Nat} {i : Instr} (h : Decoder.instr pc c pc = .ok (i, pc + n)) : decode c pc = .ok (i, n) := by
  have e : decode c pc = Except.bind (Decoder.instr pc c pc) (fun q => Except.ok (q.1, q.2 - pc)) := rfl
  rw [e, h]
  show Except.ok (i, pc + n - pc) = _
  rw [Nat.add_sub_cancel_left]
theorem bz_u2 {c : ByteArray} {k : Nat} {q r : UInt8} {l : List UInt8} (h : c.data.toList.drop k = q :: r :: l) : (Reader.u2 : Decoder Nat) c k = .ok (q.toNat * 256 + r.toNat, k + 2) := by
  obtain ⟨h1, h2⟩ := bz_at h
  obtain ⟨h3, -⟩ := bz_at h2
  show ((Reader.u1 : Decoder Nat) >>= fun hi => (Reader.u1 : Decoder Nat) >>= fun lo => Pure.pure (hi * 256 + lo)) c k = _
  rw [bz_bind h1, bz_bind h3]
  rfl
theorem bz_d0 {c : ByteArray} {pc b : Nat} {i : Instr} {f : Nat → Decoder Instr} (hf : Decoder.instr pc = (Reader.u1 >>= f)) (hb : f b = Pure.pure i) (h : bz1 c pc b = true) : decode c pc = .ok (i, 1) := by
  unfold bz1 at h
  split at h
  · next p r hd =>
    obtain ⟨h1, -⟩ := bz_at hd
    rw [Nat.eq_of_beq_eq_true h] at h1
    refine bz_fin ?_
    rw [hf, bz_bind h1, hb]
    rfl
  · cases h
theorem bz_d1 {c : ByteArray} {pc b x : Nat} {i : Instr} {f g : Nat → Decoder Instr} (hf : Decoder.instr pc = (Reader.u1 >>= f)) (hb : f b = (Reader.u1 >>= g)) (hg : g x = Pure.pure i) (h : bz2 c pc b x = true) : decode c pc = .ok (i, 2) := by
  unfold bz2 at h
  split at h
  · next p q r hd =>
    obtain ⟨ha, hq⟩ := Bool.and_eq_true_iff.mp h
    obtain ⟨h1, h2⟩ := bz_at hd
    obtain ⟨h3, -⟩ := bz_at h2
    rw [Nat.eq_of_beq_eq_true ha] at h1
    rw [Nat.eq_of_beq_eq_true hq] at h3
    refine bz_fin ?_
    rw [hf, bz_bind h1, hb, bz_bind h3, hg]
    rfl
  · cases h
theorem bz_d1s {c : ByteArray} {pc b : Nat} {z : Int} {i : Instr} {f : Nat → Decoder Instr} {g : Int → Decoder Instr} (hf : Decoder.instr pc = (Reader.u1 >>= f)) (hb : f b = (Reader.s1 >>= g)) (hg : g z = Pure.pure i) (h : bz2s c pc b z = true) : decode c pc = .ok (i, 2) := by
  unfold bz2s at h
  split at h
  · next p q r hd =>
    obtain ⟨ha, hq⟩ := Bool.and_eq_true_iff.mp h
    obtain ⟨h1, h2⟩ := bz_at hd
    obtain ⟨h3, -⟩ := bz_at h2
    rw [Nat.eq_of_beq_eq_true ha] at h1
    have h4 : (Reader.s1 : Decoder Int) c (pc + 1) = .ok (z, pc + 1 + 1) := by
      rw [← of_decide_eq_true hq]
      exact bz_map h3
    refine bz_fin ?_
    rw [hf, bz_bind h1, hb, bz_bind h4, hg]
    rfl
  · cases h
theorem bz_d2 {c : ByteArray} {pc b x : Nat} {i : Instr} {f g : Nat → Decoder Instr} (hf : Decoder.instr pc = (Reader.u1 >>= f)) (hb : f b = (Reader.u2 >>= g)) (hg : g x = Pure.pure i) (h : bz3 c pc b x = true) : decode c pc = .ok (i, 3) := by
  unfold bz3 at h
  split at h
  · next p q r l hd =>
    obtain ⟨ha, hq⟩ := Bool.and_eq_true_iff.mp h
    obtain ⟨h1, h2⟩ := bz_at hd
    have h3 := bz_u2 h2
    rw [Nat.eq_of_beq_eq_true ha] at h1
    rw [Nat.eq_of_beq_eq_true hq] at h3
    refine bz_fin ?_
    rw [hf, bz_bind h1, hb, bz_bind h3, hg]
    rfl
  · cases h
theorem bz_d2s {c : ByteArray} {pc b : Nat} {z : Int} {i : Instr} {f : Nat → Decoder Instr} {g : Int → Decoder Instr} (hf : Decoder.instr pc = (Reader.u1 >>= f)) (hb : f b = (Reader.s2 >>= g)) (hg : g z = Pure.pure i) (h : bz3s c pc b z = true) : decode c pc = .ok (i, 3) := by
  unfold bz3s at h
  split at h
  · next p q r l hd =>
    obtain ⟨ha, hq⟩ := Bool.and_eq_true_iff.mp h
    obtain ⟨h1, h2⟩ := bz_at hd
    have h3 := bz_u2 h2
    rw [Nat.eq_of_beq_eq_true ha] at h1
    have h4 : (Reader.s2 : Decoder Int) c (pc + 1) = .ok (z, pc + 1 + 2) := by
      rw [← of_decide_eq_true hq]
      exact bz_map h3
    refine bz_fin ?_
    rw [hf, bz_bind h1, hb, bz_bind h4, hg]
    rfl
  · cases h
theorem bz_di {c : ByteArray} {pc b x : Nat} {z : Int} {i : Instr} {f g : Nat → Decoder Instr} {g2 : Int → Decoder Instr} (hf : Decoder.instr pc = (Reader.u1 >>= f)) (hb : f b = (Reader.u1 >>= g)) (hg : g x = (Reader.s1 >>= g2)) (hi : g2 z = Pure.pure i) (h : bz3i c pc b x z = true) : decode c pc = .ok (i, 3) := by
  unfold bz3i at h
  split at h
  · next p q r l hd =>
    obtain ⟨ha, hq⟩ := Bool.and_eq_true_iff.mp h
    obtain ⟨hq, hr⟩ := Bool.and_eq_true_iff.mp hq
    obtain ⟨h1, h2⟩ := bz_at hd
    obtain ⟨h3, h4⟩ := bz_at h2
    obtain ⟨h5, -⟩ := bz_at h4
    rw [Nat.eq_of_beq_eq_true ha] at h1
    rw [Nat.eq_of_beq_eq_true hq] at h3
    have h6 : (Reader.s1 : Decoder Int) c (pc + 1 + 1) = .ok (z, pc + 1 + 1 + 1) := by
      rw [← of_decide_eq_true hr]
      exact bz_map h5
    refine bz_fin ?_
    rw [hf, bz_bind h1, hb, bz_bind h3, hg, bz_bind h6, hi]
    rfl
  · cases h
theorem bo_2 {c : ByteArray} {pc : Nat} (h : bz1 c pc 2 = true) : decode c pc = .ok (.iconst (-1), 1) := bz_d0 rfl rfl h
theorem bo_3 {c : ByteArray} {pc : Nat} (h : bz1 c pc 3 = true) : decode c pc = .ok (.iconst 0, 1) := bz_d0 rfl rfl h
theorem bo_4 {c : ByteArray} {pc : Nat} (h : bz1 c pc 4 = true) : decode c pc = .ok (.iconst 1, 1) := bz_d0 rfl rfl h
theorem bo_5 {c : ByteArray} {pc : Nat} (h : bz1 c pc 5 = true) : decode c pc = .ok (.iconst 2, 1) := bz_d0 rfl rfl h
theorem bo_6 {c : ByteArray} {pc : Nat} (h : bz1 c pc 6 = true) : decode c pc = .ok (.iconst 3, 1) := bz_d0 rfl rfl h
theorem bo_7 {c : ByteArray} {pc : Nat} (h : bz1 c pc 7 = true) : decode c pc = .ok (.iconst 4, 1) := bz_d0 rfl rfl h
theorem bo_8 {c : ByteArray} {pc : Nat} (h : bz1 c pc 8 = true) : decode c pc = .ok (.iconst 5, 1) := bz_d0 rfl rfl h
theorem bo_9 {c : ByteArray} {pc : Nat} (h : bz1 c pc 9 = true) : decode c pc = .ok (.lconst 0, 1) := bz_d0 rfl rfl h
theorem bo_10 {c : ByteArray} {pc : Nat} (h : bz1 c pc 10 = true) : decode c pc = .ok (.lconst 1, 1) := bz_d0 rfl rfl h
theorem bo_16 {c : ByteArray} {pc : Nat} {z : Int} (h : bz2s c pc 16 z = true) : decode c pc = .ok (.bipush z, 2) := bz_d1s rfl rfl rfl h
theorem bo_17 {c : ByteArray} {pc : Nat} {z : Int} (h : bz3s c pc 17 z = true) : decode c pc = .ok (.sipush z, 3) := bz_d2s rfl rfl rfl h
theorem bo_18 {c : ByteArray} {pc x : Nat} (h : bz2 c pc 18 x = true) : decode c pc = .ok (.ldc x, 2) := bz_d1 rfl rfl rfl h
theorem bo_20 {c : ByteArray} {pc x : Nat} (h : bz3 c pc 20 x = true) : decode c pc = .ok (.ldc2_w x, 3) := bz_d2 rfl rfl rfl h
theorem bo_21 {c : ByteArray} {pc x : Nat} (h : bz2 c pc 21 x = true) : decode c pc = .ok (.iload x, 2) := bz_d1 rfl rfl rfl h
theorem bo_22 {c : ByteArray} {pc x : Nat} (h : bz2 c pc 22 x = true) : decode c pc = .ok (.lload x, 2) := bz_d1 rfl rfl rfl h
theorem bo_26 {c : ByteArray} {pc : Nat} (h : bz1 c pc 26 = true) : decode c pc = .ok (.iload_n 0, 1) := bz_d0 rfl rfl h
theorem bo_27 {c : ByteArray} {pc : Nat} (h : bz1 c pc 27 = true) : decode c pc = .ok (.iload_n 1, 1) := bz_d0 rfl rfl h
theorem bo_28 {c : ByteArray} {pc : Nat} (h : bz1 c pc 28 = true) : decode c pc = .ok (.iload_n 2, 1) := bz_d0 rfl rfl h
theorem bo_29 {c : ByteArray} {pc : Nat} (h : bz1 c pc 29 = true) : decode c pc = .ok (.iload_n 3, 1) := bz_d0 rfl rfl h
theorem bo_30 {c : ByteArray} {pc : Nat} (h : bz1 c pc 30 = true) : decode c pc = .ok (.lload_n 0, 1) := bz_d0 rfl rfl h
theorem bo_32 {c : ByteArray} {pc : Nat} (h : bz1 c pc 32 = true) : decode c pc = .ok (.lload_n 2, 1) := bz_d0 rfl rfl h
theorem bo_42 {c : ByteArray} {pc : Nat} (h : bz1 c pc 42 = true) : decode c pc = .ok (.aload_n 0, 1) := bz_d0 rfl rfl h
theorem bo_43 {c : ByteArray} {pc : Nat} (h : bz1 c pc 43 = true) : decode c pc = .ok (.aload_n 1, 1) := bz_d0 rfl rfl h
theorem bo_44 {c : ByteArray} {pc : Nat} (h : bz1 c pc 44 = true) : decode c pc = .ok (.aload_n 2, 1) := bz_d0 rfl rfl h
theorem bo_46 {c : ByteArray} {pc : Nat} (h : bz1 c pc 46 = true) : decode c pc = .ok (.iaload, 1) := bz_d0 rfl rfl h
theorem bo_51 {c : ByteArray} {pc : Nat} (h : bz1 c pc 51 = true) : decode c pc = .ok (.baload, 1) := bz_d0 rfl rfl h
theorem bo_52 {c : ByteArray} {pc : Nat} (h : bz1 c pc 52 = true) : decode c pc = .ok (.caload, 1) := bz_d0 rfl rfl h
theorem bo_54 {c : ByteArray} {pc x : Nat} (h : bz2 c pc 54 x = true) : decode c pc = .ok (.istore x, 2) := bz_d1 rfl rfl rfl h
theorem bo_60 {c : ByteArray} {pc : Nat} (h : bz1 c pc 60 = true) : decode c pc = .ok (.istore_n 1, 1) := bz_d0 rfl rfl h
theorem bo_61 {c : ByteArray} {pc : Nat} (h : bz1 c pc 61 = true) : decode c pc = .ok (.istore_n 2, 1) := bz_d0 rfl rfl h
theorem bo_62 {c : ByteArray} {pc : Nat} (h : bz1 c pc 62 = true) : decode c pc = .ok (.istore_n 3, 1) := bz_d0 rfl rfl h
theorem bo_76 {c : ByteArray} {pc : Nat} (h : bz1 c pc 76 = true) : decode c pc = .ok (.astore_n 1, 1) := bz_d0 rfl rfl h
theorem bo_77 {c : ByteArray} {pc : Nat} (h : bz1 c pc 77 = true) : decode c pc = .ok (.astore_n 2, 1) := bz_d0 rfl rfl h
theorem bo_79 {c : ByteArray} {pc : Nat} (h : bz1 c pc 79 = true) : decode c pc = .ok (.iastore, 1) := bz_d0 rfl rfl h
theorem bo_84 {c : ByteArray} {pc : Nat} (h : bz1 c pc 84 = true) : decode c pc = .ok (.bastore, 1) := bz_d0 rfl rfl h
theorem bo_87 {c : ByteArray} {pc : Nat} (h : bz1 c pc 87 = true) : decode c pc = .ok (.pop, 1) := bz_d0 rfl rfl h
theorem bo_88 {c : ByteArray} {pc : Nat} (h : bz1 c pc 88 = true) : decode c pc = .ok (.pop2, 1) := bz_d0 rfl rfl h
theorem bo_89 {c : ByteArray} {pc : Nat} (h : bz1 c pc 89 = true) : decode c pc = .ok (.dup, 1) := bz_d0 rfl rfl h
theorem bo_92 {c : ByteArray} {pc : Nat} (h : bz1 c pc 92 = true) : decode c pc = .ok (.dup2, 1) := bz_d0 rfl rfl h
theorem bo_96 {c : ByteArray} {pc : Nat} (h : bz1 c pc 96 = true) : decode c pc = .ok (.iadd, 1) := bz_d0 rfl rfl h
theorem bo_100 {c : ByteArray} {pc : Nat} (h : bz1 c pc 100 = true) : decode c pc = .ok (.isub, 1) := bz_d0 rfl rfl h
theorem bo_104 {c : ByteArray} {pc : Nat} (h : bz1 c pc 104 = true) : decode c pc = .ok (.imul, 1) := bz_d0 rfl rfl h
theorem bo_108 {c : ByteArray} {pc : Nat} (h : bz1 c pc 108 = true) : decode c pc = .ok (.idiv, 1) := bz_d0 rfl rfl h
theorem bo_112 {c : ByteArray} {pc : Nat} (h : bz1 c pc 112 = true) : decode c pc = .ok (.irem, 1) := bz_d0 rfl rfl h
theorem bo_116 {c : ByteArray} {pc : Nat} (h : bz1 c pc 116 = true) : decode c pc = .ok (.ineg, 1) := bz_d0 rfl rfl h
theorem bo_120 {c : ByteArray} {pc : Nat} (h : bz1 c pc 120 = true) : decode c pc = .ok (.ishl, 1) := bz_d0 rfl rfl h
theorem bo_122 {c : ByteArray} {pc : Nat} (h : bz1 c pc 122 = true) : decode c pc = .ok (.ishr, 1) := bz_d0 rfl rfl h
theorem bo_126 {c : ByteArray} {pc : Nat} (h : bz1 c pc 126 = true) : decode c pc = .ok (.iand, 1) := bz_d0 rfl rfl h
theorem bo_128 {c : ByteArray} {pc : Nat} (h : bz1 c pc 128 = true) : decode c pc = .ok (.ior, 1) := bz_d0 rfl rfl h
theorem bo_132 {c : ByteArray} {pc x : Nat} {z : Int} (h : bz3i c pc 132 x z = true) : decode c pc = .ok (.iinc x z, 3) := bz_di rfl rfl rfl rfl h
theorem bo_133 {c : ByteArray} {pc : Nat} (h : bz1 c pc 133 = true) : decode c pc = .ok (.i2l, 1) := bz_d0 rfl rfl h
theorem bo_146 {c : ByteArray} {pc : Nat} (h : bz1 c pc 146 = true) : decode c pc = .ok (.i2c, 1) := bz_d0 rfl rfl h
theorem bo_148 {c : ByteArray} {pc : Nat} (h : bz1 c pc 148 = true) : decode c pc = .ok (.lcmp, 1) := bz_d0 rfl rfl h
theorem bo_153 {c : ByteArray} {pc : Nat} {z : Int} (h : bz3s c pc 153 z = true) : decode c pc = .ok (.ifCond .eq z, 3) := bz_d2s rfl rfl rfl h
theorem bo_154 {c : ByteArray} {pc : Nat} {z : Int} (h : bz3s c pc 154 z = true) : decode c pc = .ok (.ifCond .ne z, 3) := bz_d2s rfl rfl rfl h
theorem bo_155 {c : ByteArray} {pc : Nat} {z : Int} (h : bz3s c pc 155 z = true) : decode c pc = .ok (.ifCond .lt z, 3) := bz_d2s rfl rfl rfl h
theorem bo_156 {c : ByteArray} {pc : Nat} {z : Int} (h : bz3s c pc 156 z = true) : decode c pc = .ok (.ifCond .ge z, 3) := bz_d2s rfl rfl rfl h
theorem bo_157 {c : ByteArray} {pc : Nat} {z : Int} (h : bz3s c pc 157 z = true) : decode c pc = .ok (.ifCond .gt z, 3) := bz_d2s rfl rfl rfl h
theorem bo_158 {c : ByteArray} {pc : Nat} {z : Int} (h : bz3s c pc 158 z = true) : decode c pc = .ok (.ifCond .le z, 3) := bz_d2s rfl rfl rfl h
theorem bo_159 {c : ByteArray} {pc : Nat} {z : Int} (h : bz3s c pc 159 z = true) : decode c pc = .ok (.if_icmp .eq z, 3) := bz_d2s rfl rfl rfl h
theorem bo_160 {c : ByteArray} {pc : Nat} {z : Int} (h : bz3s c pc 160 z = true) : decode c pc = .ok (.if_icmp .ne z, 3) := bz_d2s rfl rfl rfl h
theorem bo_161 {c : ByteArray} {pc : Nat} {z : Int} (h : bz3s c pc 161 z = true) : decode c pc = .ok (.if_icmp .lt z, 3) := bz_d2s rfl rfl rfl h
theorem bo_162 {c : ByteArray} {pc : Nat} {z : Int} (h : bz3s c pc 162 z = true) : decode c pc = .ok (.if_icmp .ge z, 3) := bz_d2s rfl rfl rfl h
theorem bo_163 {c : ByteArray} {pc : Nat} {z : Int} (h : bz3s c pc 163 z = true) : decode c pc = .ok (.if_icmp .gt z, 3) := bz_d2s rfl rfl rfl h
theorem bo_164 {c : ByteArray} {pc : Nat} {z : Int} (h : bz3s c pc 164 z = true) : decode c pc = .ok (.if_icmp .le z, 3) := bz_d2s rfl rfl rfl h
theorem bo_167 {c : ByteArray} {pc : Nat} {z : Int} (h : bz3s c pc 167 z = true) : decode c pc = .ok (.goto z, 3) := bz_d2s rfl rfl rfl h
theorem bo_172 {c : ByteArray} {pc : Nat} (h : bz1 c pc 172 = true) : decode c pc = .ok (.ireturn, 1) := bz_d0 rfl rfl h
theorem bo_173 {c : ByteArray} {pc : Nat} (h : bz1 c pc 173 = true) : decode c pc = .ok (.lreturn, 1) := bz_d0 rfl rfl h
theorem bo_176 {c : ByteArray} {pc : Nat} (h : bz1 c pc 176 = true) : decode c pc = .ok (.areturn, 1) := bz_d0 rfl rfl h
theorem bo_177 {c : ByteArray} {pc : Nat} (h : bz1 c pc 177 = true) : decode c pc = .ok (.return_, 1) := bz_d0 rfl rfl h
theorem bo_178 {c : ByteArray} {pc x : Nat} (h : bz3 c pc 178 x = true) : decode c pc = .ok (.getstatic x, 3) := bz_d2 rfl rfl rfl h
theorem bo_180 {c : ByteArray} {pc x : Nat} (h : bz3 c pc 180 x = true) : decode c pc = .ok (.getfield x, 3) := bz_d2 rfl rfl rfl h
theorem bo_181 {c : ByteArray} {pc x : Nat} (h : bz3 c pc 181 x = true) : decode c pc = .ok (.putfield x, 3) := bz_d2 rfl rfl rfl h
theorem bo_182 {c : ByteArray} {pc x : Nat} (h : bz3 c pc 182 x = true) : decode c pc = .ok (.invokevirtual x, 3) := bz_d2 rfl rfl rfl h
theorem bo_183 {c : ByteArray} {pc x : Nat} (h : bz3 c pc 183 x = true) : decode c pc = .ok (.invokespecial x, 3) := bz_d2 rfl rfl rfl h
theorem bo_184 {c : ByteArray} {pc x : Nat} (h : bz3 c pc 184 x = true) : decode c pc = .ok (.invokestatic x, 3) := bz_d2 rfl rfl rfl h
theorem bo_187 {c : ByteArray} {pc x : Nat} (h : bz3 c pc 187 x = true) : decode c pc = .ok (.new x, 3) := bz_d2 rfl rfl rfl h
theorem bo_188_4 {c : ByteArray} {pc : Nat} (h : bz2 c pc 188 4 = true) : decode c pc = .ok (.newarray .boolean, 2) := bz_d1 rfl rfl rfl h
theorem bo_188_10 {c : ByteArray} {pc : Nat} (h : bz2 c pc 188 10 = true) : decode c pc = .ok (.newarray .int, 2) := bz_d1 rfl rfl rfl h
theorem bo_190 {c : ByteArray} {pc : Nat} (h : bz1 c pc 190 = true) : decode c pc = .ok (.arraylength, 1) := bz_d0 rfl rfl h
theorem bo_191 {c : ByteArray} {pc : Nat} (h : bz1 c pc 191 = true) : decode c pc = .ok (.athrow, 1) := bz_d0 rfl rfl h
