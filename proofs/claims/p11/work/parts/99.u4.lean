/-! THE LAW: its loop -/
section LWL
variable {G : GG} {b L : Nat} {xs : Nat → Int32} {p : Program} {l : Launch} {e : Env} {s : State} {mi : MethodId} {below : List Frame} {meth : Method} {c : Code}
theorem lw_ops {Q : State → Prop} {i : Nat} {M : Mm} (C : lwX G b L xs p s mi meth c) (hi : i + 4 ≤ L) (hI : INV M) (kk : ∀ M2, INV M2 → Lz G b p l e s mi below meth c Q i 1232 [] M2) : ∀ j, j < 42 → Lz G b p l e s mi below meth c Q i (lwT j) [] M := fun j hj => match j, hj with
  | 0, _ => lw_op0 C hi hI kk
  | 1, _ => lw_op1 C hi hI kk
  | 2, _ => lw_op2 C hi hI kk
  | 3, _ => lw_op3 C hi hI kk
  | 4, _ => lw_op4 C hi hI kk
  | 5, _ => lw_op5 C hi hI kk
  | 6, _ => lw_op6 C hi hI kk
  | 7, _ => lw_op7 C hi hI kk
  | 8, _ => lw_op8 C hi hI kk
  | 9, _ => lw_op9 C hi hI kk
  | 10, _ => lw_op10 C hi hI kk
  | 11, _ => lw_op11 C hi hI kk
  | 12, _ => lw_op12 C hi hI kk
  | 13, _ => lw_op13 C hi hI kk
  | 14, _ => lw_op14 C hi hI kk
  | 15, _ => lw_op15 C hi hI kk
  | 16, _ => lw_op16 C hi hI kk
  | 17, _ => lw_op17 C hi hI kk
  | 18, _ => lw_op18 C hi hI kk
  | 19, _ => lw_op19 C hi hI kk
  | 20, _ => lw_op20 C hi hI kk
  | 21, _ => lw_op21 C hi hI kk
  | 22, _ => lw_op22 C hi hI kk
  | 23, _ => lw_op23 C hi hI kk
  | 24, _ => lw_op24 C hi hI kk
  | 25, _ => lw_op25 C hi hI kk
  | 26, _ => lw_op26 C hi hI kk
  | 27, _ => lw_op27 C hi hI kk
  | 28, _ => lw_op28 C hi hI kk
  | 29, _ => lw_op29 C hi hI kk
  | 30, _ => lw_op30 C hi hI kk
  | 31, _ => lw_op31 C hi hI kk
  | 32, _ => lw_op32 C hi hI kk
  | 33, _ => lw_op33 C hi hI kk
  | 34, _ => lw_op34 C hi hI kk
  | 35, _ => lw_op35 C hi hI kk
  | 36, _ => lw_op36 C hi hI kk
  | 37, _ => lw_op37 C hi hI kk
  | 38, _ => lw_op38 C hi hI kk
  | 39, _ => lw_op39 C hi hI kk
  | 40, _ => lw_op40 C hi hI kk
  | 41, _ => lw_op41 C hi hI kk
  | z + 42, h => absurd h (by omega)
theorem lz_all (C : lwX G b L xs p s mi meth c) : ∀ (t i : Nat) (M : Mm), INV M → i ≤ 4096 → L < i + 4 * (t + 1) → Lz G b p l e s mi below meth c (lw_Z below #[Value.ref b] s) i 18 [] M
  | 0, i, M, hI, hi, ht => lz_head C hi (lz_exit C) (fun h => absurd h (by omega))
  | t + 1, i, M, hI, hi, ht => lz_head C hi (lz_exit C) (fun h => by
    have hL := C.2.2.2.2.2.1
    have hn : ∀ M2, INV M2 → Lz G b p l e s mi below meth c (lw_Z below #[Value.ref b] s) i 1232 [] M2 := fun M2 hI2 => lz_next C (lz_all C t (i + 4) M2 hI2 (by omega) (by omega))
    exact lz_key C h (lw_ops C h hI hn) (hn M hI))
end LWL
