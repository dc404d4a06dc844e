/-! an instruction at a time -/
section
variable {m pc ln a b c k s : Nat} {L L' : Lc} {st : List Value} {μ : Me} {K : Ou → Me → Prop}
theorem e_iconst {n : Int} {v : Int32} (hl : lk m pc = some (.iconst n, ln, a, b, c)) (hv : Int32.ofInt n = v) : Ev m (pc, L, st, k, s, μ) K ↔ Ev m (pc + 1, L, .int v :: st, k, s, μ) K :=
  hv ▸ Ev_stp hl rfl
theorem e_bipush {n : Int} {v : Int32} (hl : lk m pc = some (.bipush n, ln, a, b, c)) (hv : (Int8.ofInt n).toInt32 = v) : Ev m (pc, L, st, k, s, μ) K ↔ Ev m (pc + 2, L, .int v :: st, k, s, μ) K :=
  hv ▸ Ev_stp hl rfl
theorem e_sipush {n : Int} {v : Int32} (hl : lk m pc = some (.sipush n, ln, a, b, c)) (hv : (Int16.ofInt n).toInt32 = v) : Ev m (pc, L, st, k, s, μ) K ↔ Ev m (pc + 3, L, .int v :: st, k, s, μ) K :=
  hv ▸ Ev_stp hl rfl
theorem e_ldc_w {i : Nat} {v : Int32} (hl : lk m pc = some (.ldc_w i, ln, a, b, c)) (hv : Int32.ofNat a = v) : Ev m (pc, L, st, k, s, μ) K ↔ Ev m (pc + 3, L, .int v :: st, k, s, μ) K :=
  hv ▸ Ev_stp hl rfl
theorem e_lconst {n : Fin 2} (hl : lk m pc = some (.lconst n, ln, a, b, c)) : Ev m (pc, L, st, k, s, μ) K ↔ Ev m (pc + 1, L, .long (Int64.ofNat (n : Nat)) :: st, k, s, μ) K :=
  Ev_stp hl rfl
theorem e_fconst  (hl : lk m pc = some (.fconst 0, ln, a, b, c)) : Ev m (pc, L, st, k, s, μ) K ↔ Ev m (pc + 1, L, .float FP.fconst0 :: st, k, s, μ) K :=
  Ev_stp hl rfl
theorem e_dconst  (hl : lk m pc = some (.dconst 0, ln, a, b, c)) : Ev m (pc, L, st, k, s, μ) K ↔ Ev m (pc + 1, L, .double FP.dconst0 :: st, k, s, μ) K :=
  Ev_stp hl rfl
theorem e_goto {n : Int} (hl : lk m pc = some (.goto n, ln, a, b, c)) : Ev m (pc, L, st, k, s, μ) K ↔ Ev m (a, L, st, k, s, μ) K :=
  Ev_stp hl rfl
theorem e_iload_n {i : Fin 4} {v : Int32} (hl : lk m pc = some (.iload_n i, ln, a, b, c)) (h : L[(i : Nat)]? = some (.int v)) : Ev m (pc, L, st, k, s, μ) K ↔ Ev m (pc + 1, L, .int v :: st, k, s, μ) K :=
  Ev_stp hl (by simp [stp, orE, stpK, stpL, stpN, stpB, stpH, stpM, ldI, ldA, stI, stA, nx, h])
theorem e_iload {i : Nat} {v : Int32} (hl : lk m pc = some (.iload i, ln, a, b, c)) (h : L[(i : Nat)]? = some (.int v)) : Ev m (pc, L, st, k, s, μ) K ↔ Ev m (pc + 2, L, .int v :: st, k, s, μ) K :=
  Ev_stp hl (by simp [stp, orE, stpK, stpL, stpN, stpB, stpH, stpM, ldI, ldA, stI, stA, nx, h])
theorem e_aload_n {i : Fin 4} {v : Nat} (hl : lk m pc = some (.aload_n i, ln, a, b, c)) (h : L[(i : Nat)]? = some (.ref v)) : Ev m (pc, L, st, k, s, μ) K ↔ Ev m (pc + 1, L, .ref v :: st, k, s, μ) K :=
  Ev_stp hl (by simp [stp, orE, stpK, stpL, stpN, stpB, stpH, stpM, ldI, ldA, stI, stA, nx, h])
theorem e_aload {i : Nat} {v : Nat} (hl : lk m pc = some (.aload i, ln, a, b, c)) (h : L[(i : Nat)]? = some (.ref v)) : Ev m (pc, L, st, k, s, μ) K ↔ Ev m (pc + 2, L, .ref v :: st, k, s, μ) K :=
  Ev_stp hl (by simp [stp, orE, stpK, stpL, stpN, stpB, stpH, stpM, ldI, ldA, stI, stA, nx, h])
theorem e_fload {i : Nat} {v : UInt32} (hl : lk m pc = some (.fload i, ln, a, b, c)) (h : L[(i : Nat)]? = some (.float v)) : Ev m (pc, L, st, k, s, μ) K ↔ Ev m (pc + 2, L, .float v :: st, k, s, μ) K :=
  Ev_stp hl (by simp [stp, orE, stpK, stpL, stpN, stpB, stpH, stpM, ldI, ldA, stI, stA, nx, h])
theorem e_dload {i : Nat} {v : UInt64} (hl : lk m pc = some (.dload i, ln, a, b, c)) (h : L[(i : Nat)]? = some (.double v)) : Ev m (pc, L, st, k, s, μ) K ↔ Ev m (pc + 2, L, .double v :: st, k, s, μ) K :=
  Ev_stp hl (by simp [stp, orE, stpK, stpL, stpN, stpB, stpH, stpM, ldI, ldA, stI, stA, nx, h])
theorem e_istore_n {i : Fin 4} {v : Int32} (hl : lk m pc = some (.istore_n i, ln, a, b, c)) (h : wrL m L i (.int v) = L') (hi : (i : Nat) < mL m) : Ev m (pc, L, (.int v :: st), k, s, μ) K ↔ Ev m (pc + 1, L', st, k, s, μ) K :=
  Ev_stp hl (by simp [stp, orE, stpK, stpL, stpN, stpB, stpH, stpM, ldI, ldA, stI, stA, nx, h, hi])
theorem e_istore {i : Nat} {v : Int32} (hl : lk m pc = some (.istore i, ln, a, b, c)) (h : wrL m L i (.int v) = L') (hi : (i : Nat) < mL m) : Ev m (pc, L, (.int v :: st), k, s, μ) K ↔ Ev m (pc + 2, L', st, k, s, μ) K :=
  Ev_stp hl (by simp [stp, orE, stpK, stpL, stpN, stpB, stpH, stpM, ldI, ldA, stI, stA, nx, h, hi])
theorem e_astore_n {i : Fin 4} {v : Nat} (hl : lk m pc = some (.astore_n i, ln, a, b, c)) (h : wrL m L i (.ref v) = L') (hi : (i : Nat) < mL m) : Ev m (pc, L, (.ref v :: st), k, s, μ) K ↔ Ev m (pc + 1, L', st, k, s, μ) K :=
  Ev_stp hl (by simp [stp, orE, stpK, stpL, stpN, stpB, stpH, stpM, ldI, ldA, stI, stA, nx, h, hi])
theorem e_astore {i : Nat} {v : Nat} (hl : lk m pc = some (.astore i, ln, a, b, c)) (h : wrL m L i (.ref v) = L') (hi : (i : Nat) < mL m) : Ev m (pc, L, (.ref v :: st), k, s, μ) K ↔ Ev m (pc + 2, L', st, k, s, μ) K :=
  Ev_stp hl (by simp [stp, orE, stpK, stpL, stpN, stpB, stpH, stpM, ldI, ldA, stI, stA, nx, h, hi])
theorem e_fstore {i : Nat} {v : UInt32} (hl : lk m pc = some (.fstore i, ln, a, b, c)) (h : wrL m L i (.float v) = L') (hi : (i : Nat) < mL m) : Ev m (pc, L, (.float v :: st), k, s, μ) K ↔ Ev m (pc + 2, L', st, k, s, μ) K :=
  Ev_stp hl (by simp [stp, orE, stpK, stpL, stpN, stpB, stpH, stpM, ldI, ldA, stI, stA, nx, h, hi])
theorem e_dstore {i : Nat} {v : UInt64} (hl : lk m pc = some (.dstore i, ln, a, b, c)) (h : ((nz L i).set i (.double v)).set (i + 1) .null = L') (hi : i + 1 < mL m ∧ isScr m = true) : Ev m (pc, L, (.double v :: st), k, s, μ) K ↔ Ev m (pc + 2, L', st, k, s, μ) K :=
  Ev_stp hl (by simp [stp, orE, stpK, stpL, stpN, stpB, stpH, stpM, ldI, ldA, stI, stA, nx, h, hi])
theorem e_iinc {i : Nat} {n : Int} {v w : Int32} (hl : lk m pc = some (.iinc i n, ln, a, b, c)) (h : L[i]? = some (.int v)) (hw : Int32.ofInt n = w) (h2 : wrL m L i (.int (v + w)) = L') (hi : i < mL m ∧ ln = 3) : Ev m (pc, L, st, k, s, μ) K ↔ Ev m (pc + 3, L', st, k, s, μ) K :=
  Ev_stp hl (by simp [stp, orE, stpK, stpL, stpN, stpB, stpH, stpM, ldI, ldA, stI, stA, nx, h, hw, h2, hi])
theorem e_iadd {x y : Int32} (hl : lk m pc = some (.iadd, ln, a, b, c)) : Ev m (pc, L, (.int y :: .int x :: st), k, s, μ) K ↔ Ev m (pc + 1, L, .int (x + y) :: st, k, s, μ) K :=
  Ev_stp hl rfl
theorem e_isub {x y : Int32} (hl : lk m pc = some (.isub, ln, a, b, c)) : Ev m (pc, L, (.int y :: .int x :: st), k, s, μ) K ↔ Ev m (pc + 1, L, .int (x - y) :: st, k, s, μ) K :=
  Ev_stp hl rfl
theorem e_imul {x y : Int32} (hl : lk m pc = some (.imul, ln, a, b, c)) : Ev m (pc, L, (.int y :: .int x :: st), k, s, μ) K ↔ Ev m (pc + 1, L, .int (x * y) :: st, k, s, μ) K :=
  Ev_stp hl rfl
theorem e_iand {x y : Int32} (hl : lk m pc = some (.iand, ln, a, b, c)) : Ev m (pc, L, (.int y :: .int x :: st), k, s, μ) K ↔ Ev m (pc + 1, L, .int (x &&& y) :: st, k, s, μ) K :=
  Ev_stp hl rfl
theorem e_ior {x y : Int32} (hl : lk m pc = some (.ior, ln, a, b, c)) : Ev m (pc, L, (.int y :: .int x :: st), k, s, μ) K ↔ Ev m (pc + 1, L, .int (x ||| y) :: st, k, s, μ) K :=
  Ev_stp hl rfl
theorem e_ixor {x y : Int32} (hl : lk m pc = some (.ixor, ln, a, b, c)) : Ev m (pc, L, (.int y :: .int x :: st), k, s, μ) K ↔ Ev m (pc + 1, L, .int (x ^^^ y) :: st, k, s, μ) K :=
  Ev_stp hl rfl
theorem e_ishl {x y : Int32} (hl : lk m pc = some (.ishl, ln, a, b, c)) : Ev m (pc, L, (.int y :: .int x :: st), k, s, μ) K ↔ Ev m (pc + 1, L, .int (x <<< (y &&& 31)) :: st, k, s, μ) K :=
  Ev_stp hl rfl
theorem e_ishr {x y : Int32} (hl : lk m pc = some (.ishr, ln, a, b, c)) : Ev m (pc, L, (.int y :: .int x :: st), k, s, μ) K ↔ Ev m (pc + 1, L, .int (x >>> (y &&& 31)) :: st, k, s, μ) K :=
  Ev_stp hl rfl
theorem e_iushr {x y : Int32} (hl : lk m pc = some (.iushr, ln, a, b, c)) : Ev m (pc, L, (.int y :: .int x :: st), k, s, μ) K ↔ Ev m (pc + 1, L, .int ((x.toUInt32 >>> (y.toUInt32 &&& Int32.toUInt32 31)).toInt32) :: st, k, s, μ) K :=
  Ev_stp hl rfl
theorem e_idiv {x y : Int32} (hl : lk m pc = some (.idiv, ln, a, b, c)) : Ev m (pc, L, (.int y :: .int x :: st), k, s, μ) K ↔ (¬ y = 0) ∧ Ev m (pc + 1, L, .int (x / y) :: st, k, s, μ) K := by
  by_cases hc : y = 0
  · rw [Ev_no hl (by simp [stp, orE, stpK, stpL, stpN, stpB, stpH, stpM, nx, hc]) rfl rfl]
    exact ⟨False.elim, fun h => h.1 hc⟩
  · rw [and_iff_right hc]
    exact Ev_stp hl (by simp [stp, orE, stpK, stpL, stpN, stpB, stpH, stpM, nx, hc])
theorem e_irem {x y : Int32} (hl : lk m pc = some (.irem, ln, a, b, c)) : Ev m (pc, L, (.int y :: .int x :: st), k, s, μ) K ↔ (¬ y = 0) ∧ Ev m (pc + 1, L, .int (x - x / y * y) :: st, k, s, μ) K := by
  by_cases hc : y = 0
  · rw [Ev_no hl (by simp [stp, orE, stpK, stpL, stpN, stpB, stpH, stpM, nx, hc]) rfl rfl]
    exact ⟨False.elim, fun h => h.1 hc⟩
  · rw [and_iff_right hc]
    exact Ev_stp hl (by simp [stp, orE, stpK, stpL, stpN, stpB, stpH, stpM, nx, hc])
theorem e_i2l {x : Int32} (hl : lk m pc = some (.i2l, ln, a, b, c)) : Ev m (pc, L, (.int x :: st), k, s, μ) K ↔ Ev m (pc + 1, L, .long x.toInt64 :: st, k, s, μ) K :=
  Ev_stp hl rfl
theorem e_i2c {x : Int32} (hl : lk m pc = some (.i2c, ln, a, b, c)) : Ev m (pc, L, (.int x :: st), k, s, μ) K ↔ Ev m (pc + 1, L, .int (x.toUInt32 % 65536).toInt32 :: st, k, s, μ) K :=
  Ev_stp hl rfl
theorem e_i2f {x : Int32} (hl : lk m pc = some (.i2f, ln, a, b, c)) : Ev m (pc, L, (.int x :: st), k, s, μ) K ↔ Ev m (pc + 1, L, .float (FP.i2f x) :: st, k, s, μ) K :=
  Ev_stp hl rfl
theorem e_i2d {x : Int32} (hl : lk m pc = some (.i2d, ln, a, b, c)) : Ev m (pc, L, (.int x :: st), k, s, μ) K ↔ Ev m (pc + 1, L, .double (FP.i2d x) :: st, k, s, μ) K :=
  Ev_stp hl rfl
theorem e_f2d {x : UInt32} (hl : lk m pc = some (.f2d, ln, a, b, c)) (h : FP.f2d x &&& 0x7fffffffffffffff ≤ 0x7ff0000000000000) : Ev m (pc, L, (.float x :: st), k, s, μ) K ↔ Ev m (pc + 1, L, .double (FP.f2d x) :: st, k, s, μ) K :=
  Ev_stp hl (by simp [stp, orE, stpK, stpL, stpN, stpB, stpH, stpM, ldI, ldA, stI, stA, nx, h])
theorem e_fdiv {x y : UInt32} (hl : lk m pc = some (.fdiv, ln, a, b, c)) (h : FP.fdiv x y &&& 0x7fffffff ≤ 0x7f800000) : Ev m (pc, L, (.float y :: .float x :: st), k, s, μ) K ↔ Ev m (pc + 1, L, .float (FP.fdiv x y) :: st, k, s, μ) K :=
  Ev_stp hl (by simp [stp, orE, stpK, stpL, stpN, stpB, stpH, stpM, ldI, ldA, stI, stA, nx, h])
theorem e_ddiv {x y : UInt64} (hl : lk m pc = some (.ddiv, ln, a, b, c)) (h : FP.ddiv x y &&& 0x7fffffffffffffff ≤ 0x7ff0000000000000) : Ev m (pc, L, (.double y :: .double x :: st), k, s, μ) K ↔ Ev m (pc + 1, L, .double (FP.ddiv x y) :: st, k, s, μ) K :=
  Ev_stp hl (by simp [stp, orE, stpK, stpL, stpN, stpB, stpH, stpM, ldI, ldA, stI, stA, nx, h])
theorem e_lcmp {x y : Int64} (hl : lk m pc = some (.lcmp, ln, a, b, c)) : Ev m (pc, L, (.long y :: .long x :: st), k, s, μ) K ↔ Ev m (pc + 1, L, .int (lg_cmp x y) :: st, k, s, μ) K :=
  Ev_stp hl rfl
theorem e_fcmp {x y : UInt32} {q : _} (hl : lk m pc = some (.fcmp q, ln, a, b, c)) : Ev m (pc, L, (.float y :: .float x :: st), k, s, μ) K ↔ Ev m (pc + 1, L, .int (Op.cmpValue (FP.fcmp x y) q) :: st, k, s, μ) K :=
  Ev_stp hl rfl
theorem e_dcmp {x y : UInt64} {q : _} (hl : lk m pc = some (.dcmp q, ln, a, b, c)) : Ev m (pc, L, (.double y :: .double x :: st), k, s, μ) K ↔ Ev m (pc + 1, L, .int (Op.cmpValue (FP.dcmp x y) q) :: st, k, s, μ) K :=
  Ev_stp hl rfl
theorem e_dup {v : Value} (hl : lk m pc = some (.dup, ln, a, b, c)) (h : v.category = 1) : Ev m (pc, L, (v :: st), k, s, μ) K ↔ Ev m (pc + 1, L, v :: v :: st, k, s, μ) K :=
  Ev_stp hl (by simp [stp, orE, stpK, stpL, stpN, stpB, stpH, stpM, ldI, ldA, stI, stA, nx, h])
theorem e_pop {v : Value} (hl : lk m pc = some (.pop, ln, a, b, c)) (h : v.category = 1) : Ev m (pc, L, (v :: st), k, s, μ) K ↔ Ev m (pc + 1, L, st, k, s, μ) K :=
  Ev_stp hl (by simp [stp, orE, stpK, stpL, stpN, stpB, stpH, stpM, ldI, ldA, stI, stA, nx, h])
theorem e_dup2 {v w : Value} (hl : lk m pc = some (.dup2, ln, a, b, c)) (h : v.category = 1 ∧ w.category = 1) : Ev m (pc, L, (v :: w :: st), k, s, μ) K ↔ Ev m (pc + 1, L, v :: w :: v :: w :: st, k, s, μ) K :=
  Ev_stp hl (by simp [stp, orE, stpK, stpL, stpN, stpB, stpH, stpM, ldI, ldA, stI, stA, nx, h])
theorem e_if_eq {x : Int32} {n : Int} (hl : lk m pc = some (.ifCond .eq n, ln, a, b, c)) : Ev m (pc, L, .int x :: st, k, s, μ) K ↔ if x = 0 then Ev m (a, L, st, k, s, μ) K else Ev m (pc + 3, L, st, k, s, μ) K := by
  by_cases hc : x = 0
  · rw [if_pos hc]; exact Ev_stp hl (by simp [stp, orE, stpK, stpL, stpN, stpB, nx, hc])
  · rw [if_neg hc]; exact Ev_stp hl (by simp [stp, orE, stpK, stpL, stpN, stpB, nx, hc])
theorem e_if_ne {x : Int32} {n : Int} (hl : lk m pc = some (.ifCond .ne n, ln, a, b, c)) : Ev m (pc, L, .int x :: st, k, s, μ) K ↔ if x = 0 then Ev m (pc + 3, L, st, k, s, μ) K else Ev m (a, L, st, k, s, μ) K := by
  by_cases hc : x = 0
  · rw [if_pos hc]; exact Ev_stp hl (by simp [stp, orE, stpK, stpL, stpN, stpB, nx, hc])
  · rw [if_neg hc]; exact Ev_stp hl (by simp [stp, orE, stpK, stpL, stpN, stpB, nx, hc])
theorem e_if_lt {x : Int32} {n : Int} (hl : lk m pc = some (.ifCond .lt n, ln, a, b, c)) : Ev m (pc, L, .int x :: st, k, s, μ) K ↔ if x < 0 then Ev m (a, L, st, k, s, μ) K else Ev m (pc + 3, L, st, k, s, μ) K := by
  by_cases hc : x < 0
  · rw [if_pos hc]; exact Ev_stp hl (by simp [stp, orE, stpK, stpL, stpN, stpB, nx, hc])
  · rw [if_neg hc]; exact Ev_stp hl (by simp [stp, orE, stpK, stpL, stpN, stpB, nx, hc])
theorem e_if_ge {x : Int32} {n : Int} (hl : lk m pc = some (.ifCond .ge n, ln, a, b, c)) : Ev m (pc, L, .int x :: st, k, s, μ) K ↔ if 0 ≤ x then Ev m (a, L, st, k, s, μ) K else Ev m (pc + 3, L, st, k, s, μ) K := by
  by_cases hc : 0 ≤ x
  · rw [if_pos hc]; exact Ev_stp hl (by simp [stp, orE, stpK, stpL, stpN, stpB, nx, hc])
  · rw [if_neg hc]; exact Ev_stp hl (by simp [stp, orE, stpK, stpL, stpN, stpB, nx, hc])
theorem e_if_gt {x : Int32} {n : Int} (hl : lk m pc = some (.ifCond .gt n, ln, a, b, c)) : Ev m (pc, L, .int x :: st, k, s, μ) K ↔ if 0 < x then Ev m (a, L, st, k, s, μ) K else Ev m (pc + 3, L, st, k, s, μ) K := by
  by_cases hc : 0 < x
  · rw [if_pos hc]; exact Ev_stp hl (by simp [stp, orE, stpK, stpL, stpN, stpB, nx, hc])
  · rw [if_neg hc]; exact Ev_stp hl (by simp [stp, orE, stpK, stpL, stpN, stpB, nx, hc])
theorem e_if_le {x : Int32} {n : Int} (hl : lk m pc = some (.ifCond .le n, ln, a, b, c)) : Ev m (pc, L, .int x :: st, k, s, μ) K ↔ if x ≤ 0 then Ev m (a, L, st, k, s, μ) K else Ev m (pc + 3, L, st, k, s, μ) K := by
  by_cases hc : x ≤ 0
  · rw [if_pos hc]; exact Ev_stp hl (by simp [stp, orE, stpK, stpL, stpN, stpB, nx, hc])
  · rw [if_neg hc]; exact Ev_stp hl (by simp [stp, orE, stpK, stpL, stpN, stpB, nx, hc])
theorem e_icmp_eq {x y : Int32} {n : Int} (hl : lk m pc = some (.if_icmp .eq n, ln, a, b, c)) : Ev m (pc, L, .int y :: .int x :: st, k, s, μ) K ↔ if x = y then Ev m (a, L, st, k, s, μ) K else Ev m (pc + 3, L, st, k, s, μ) K := by
  by_cases hc : x = y
  · rw [if_pos hc]; exact Ev_stp hl (by simp [stp, orE, stpK, stpL, stpN, stpB, nx, hc])
  · rw [if_neg hc]; exact Ev_stp hl (by simp [stp, orE, stpK, stpL, stpN, stpB, nx, hc])
theorem e_icmp_ne {x y : Int32} {n : Int} (hl : lk m pc = some (.if_icmp .ne n, ln, a, b, c)) : Ev m (pc, L, .int y :: .int x :: st, k, s, μ) K ↔ if x = y then Ev m (pc + 3, L, st, k, s, μ) K else Ev m (a, L, st, k, s, μ) K := by
  by_cases hc : x = y
  · rw [if_pos hc]; exact Ev_stp hl (by simp [stp, orE, stpK, stpL, stpN, stpB, nx, hc])
  · rw [if_neg hc]; exact Ev_stp hl (by simp [stp, orE, stpK, stpL, stpN, stpB, nx, hc])
theorem e_icmp_lt {x y : Int32} {n : Int} (hl : lk m pc = some (.if_icmp .lt n, ln, a, b, c)) : Ev m (pc, L, .int y :: .int x :: st, k, s, μ) K ↔ if x < y then Ev m (a, L, st, k, s, μ) K else Ev m (pc + 3, L, st, k, s, μ) K := by
  by_cases hc : x < y
  · rw [if_pos hc]; exact Ev_stp hl (by simp [stp, orE, stpK, stpL, stpN, stpB, nx, hc])
  · rw [if_neg hc]; exact Ev_stp hl (by simp [stp, orE, stpK, stpL, stpN, stpB, nx, hc])
theorem e_icmp_ge {x y : Int32} {n : Int} (hl : lk m pc = some (.if_icmp .ge n, ln, a, b, c)) : Ev m (pc, L, .int y :: .int x :: st, k, s, μ) K ↔ if y ≤ x then Ev m (a, L, st, k, s, μ) K else Ev m (pc + 3, L, st, k, s, μ) K := by
  by_cases hc : y ≤ x
  · rw [if_pos hc]; exact Ev_stp hl (by simp [stp, orE, stpK, stpL, stpN, stpB, nx, hc])
  · rw [if_neg hc]; exact Ev_stp hl (by simp [stp, orE, stpK, stpL, stpN, stpB, nx, hc])
theorem e_icmp_gt {x y : Int32} {n : Int} (hl : lk m pc = some (.if_icmp .gt n, ln, a, b, c)) : Ev m (pc, L, .int y :: .int x :: st, k, s, μ) K ↔ if y < x then Ev m (a, L, st, k, s, μ) K else Ev m (pc + 3, L, st, k, s, μ) K := by
  by_cases hc : y < x
  · rw [if_pos hc]; exact Ev_stp hl (by simp [stp, orE, stpK, stpL, stpN, stpB, nx, hc])
  · rw [if_neg hc]; exact Ev_stp hl (by simp [stp, orE, stpK, stpL, stpN, stpB, nx, hc])
theorem e_icmp_le {x y : Int32} {n : Int} (hl : lk m pc = some (.if_icmp .le n, ln, a, b, c)) : Ev m (pc, L, .int y :: .int x :: st, k, s, μ) K ↔ if x ≤ y then Ev m (a, L, st, k, s, μ) K else Ev m (pc + 3, L, st, k, s, μ) K := by
  by_cases hc : x ≤ y
  · rw [if_pos hc]; exact Ev_stp hl (by simp [stp, orE, stpK, stpL, stpN, stpB, nx, hc])
  · rw [if_neg hc]; exact Ev_stp hl (by simp [stp, orE, stpK, stpL, stpN, stpB, nx, hc])
def tsw (pc : Nat) (d lo hi : Int) (offs : Array Int) (z : Int) : Option Nat :=
  if z < lo ∨ hi < z then (if 0 ≤ (pc : Int) + d then some ((pc : Int) + d).toNat else none)
  else match offs[(z - lo).toNat]? with
    | some off => if 0 ≤ (pc : Int) + off then some ((pc : Int) + off).toNat else none
    | none => none
theorem e_tsw {x : Int32} {d lo hi : Int} {offs : Array Int} {t : Nat} (hl : lk m pc = some (.tableswitch d lo hi offs, ln, a, b, c)) (ht : tsw pc d lo hi offs x.toInt = some t) : Ev m (pc, L, .int x :: st, k, s, μ) K ↔ Ev m (t, L, st, k, s, μ) K := by
  refine Ev_stp hl ?_
  unfold tsw at ht
  simp only [stp, orE, stpK, stpL, stpN, stpB, nx]
  split at ht
  · next hc =>
    simp only [if_pos hc]
    split at ht
    · next h0 => cases ht; simp only [if_pos h0]
    · cases ht
  · next hc =>
    simp only [if_neg hc]
    split at ht
    · next off he =>
      simp only [he]
      split at ht
      · next h0 => cases ht; simp only [if_pos h0]
      · cases ht
    · cases ht
theorem e_lsw {x : Int32} {d : Int} {ps : Array (Int × Int)} {t : Nat} (hl : lk m pc = some (.lookupswitch d ps, ln, a, b, c)) (ht : (ps.toList.zip (ps.toList.drop 1)).all (fun (u, v) => u.1 < v.1) = true ∧ 0 ≤ (pc : Int) + Op.lookupswitch.offset ps.toList d x.toInt ∧ ((pc : Int) + Op.lookupswitch.offset ps.toList d x.toInt).toNat = t) : Ev m (pc, L, .int x :: st, k, s, μ) K ↔ Ev m (t, L, st, k, s, μ) K := by
  refine Ev_stp hl ?_
  obtain ⟨h1, h2, rfl⟩ := ht
  simp only [stp, orE, stpK, stpL, stpN, stpB, nx]
  rw [if_pos ⟨h1, h2⟩]
end
section
variable {m pc ln a b c k s n : Nat} {L L' : Lc} {st : List Value} {K : Ou → Me → Prop} {fr : Bool} {kd : Nat → Kd} {σ : Nat → Nat → Int32} {lo : Nat → Nat → Int64} {db : Nat → Nat → UInt64}
theorem e_getI {i ob nf : Nat} {fx : Nat → Option Value} (hl : lk m pc = some (.getfield i, ln, a, b, c)) (hk : kd ob = .inl (a, nf, fx)) (hb : b < nf) (hf : fx b = none) : Ev m (pc, L, (.ref ob :: st), k, s, fr, n, kd, σ, lo, db) K ↔ Ev m (pc + 3, L, .int (σ ob b) :: st, k, s, fr, n, kd, σ, lo, db) K := by
  exact Ev_stp hl (by simp [stp, orE, stpK, stpL, stpN, stpB, stpH, stpM, nx, hk, hb, hf])
theorem e_getA {i ob nf r : Nat} {fx : Nat → Option Value} (hl : lk m pc = some (.getfield i, ln, a, b, c)) (hk : kd ob = .inl (a, nf, fx)) (hb : b < nf) (hf : fx b = some (.ref r)) : Ev m (pc, L, (.ref ob :: st), k, s, fr, n, kd, σ, lo, db) K ↔ Ev m (pc + 3, L, .ref r :: st, k, s, fr, n, kd, σ, lo, db) K := by
  exact Ev_stp hl (by simp [stp, orE, stpK, stpL, stpN, stpB, stpH, stpM, nx, hk, hb, hf])
theorem e_getC {i ob nf : Nat} {v : Int32} {fx : Nat → Option Value} (hl : lk m pc = some (.getfield i, ln, a, b, c)) (hk : kd ob = .inl (a, nf, fx)) (hb : b < nf) (hf : fx b = some (.int v)) : Ev m (pc, L, (.ref ob :: st), k, s, fr, n, kd, σ, lo, db) K ↔ Ev m (pc + 3, L, .int v :: st, k, s, fr, n, kd, σ, lo, db) K := by
  exact Ev_stp hl (by simp [stp, orE, stpK, stpL, stpN, stpB, stpH, stpM, nx, hk, hb, hf])
theorem e_putI {i ob nf : Nat} {v : Int32} {fx : Nat → Option Value} (hl : lk m pc = some (.putfield i, ln, a, b, c)) (hk : kd ob = .inl (a, nf, fx)) (hb : b < nf) (hf : fx b = none) (h0 : c = 0) : Ev m (pc, L, (.int v :: .ref ob :: st), k, s, fr, n, kd, σ, lo, db) K ↔ Ev m (pc + 3, L, st, k, s, fr, n, kd, u2 σ ob b v, lo, db) K := by
  exact Ev_stp hl (by simp [stp, orE, stpK, stpL, stpN, stpB, stpH, stpM, nx, hk, hb, hf, h0])
theorem e_putZ {i ob nf : Nat} {v : Int32} {fx : Nat → Option Value} (hl : lk m pc = some (.putfield i, ln, a, b, c)) (hk : kd ob = .inl (a, nf, fx)) (hb : b < nf) (hf : fx b = none) (h0 : c = 1) : Ev m (pc, L, (.int v :: .ref ob :: st), k, s, fr, n, kd, σ, lo, db) K ↔ (v = 0 ∨ v = 1) ∧ Ev m (pc + 3, L, st, k, s, fr, n, kd, u2 σ ob b v, lo, db) K := by
  by_cases hc : (v = 0 ∨ v = 1)
  · rw [and_iff_right hc]
    exact Ev_stp hl (by simp [stp, orE, stpK, stpL, stpN, stpB, stpH, stpM, nx, hc, hk, hb, hf, h0])
  · rw [Ev_no hl (by simp [stp, orE, stpK, stpL, stpN, stpB, stpH, stpM, nx, hc, hk, hb, hf, h0]) rfl rfl]
    exact ⟨False.elim, fun h => hc h.1⟩
theorem e_iaload {ob len ti : Nat} {v : Int32} (hl : lk m pc = some (.iaload, ln, a, b, c)) (hk : kd ob = .inr (ti, len, none)) (ht : ti = 0 ∨ (ti = 8 ∧ ob = SCR)) : Ev m (pc, L, (.int v :: .ref ob :: st), k, s, fr, n, kd, σ, lo, db) K ↔ ixIn v len ∧ Ev m (pc + 1, L, .int (σ ob v.toNatClampNeg) :: st, k, s, fr, n, kd, σ, lo, db) K := by
  by_cases hc : ixIn v len
  · rw [and_iff_right hc]
    have hc1 : ¬ v < 0 := fun h => hc (Or.inl h)
    have hc2 : ¬ len ≤ v.toNatClampNeg := fun h => hc (Or.inr h)
    exact Ev_stp hl (by simp [stp, orE, stpK, stpL, stpN, stpB, stpH, stpM, nx, hc1, hc2, hk, ht])
  · rw [Ev_no hl (by rcases Decidable.not_not.mp hc with h | h <;> simp [stp, orE, stpK, stpL, stpN, stpB, stpH, stpM, nx, h, hk, ht]) rfl rfl]
    exact ⟨False.elim, fun h => hc h.1⟩
theorem e_caload {ob len : Nat} {v : Int32} (hl : lk m pc = some (.caload, ln, a, b, c)) (hk : kd ob = .inr (1, len, none)) : Ev m (pc, L, (.int v :: .ref ob :: st), k, s, fr, n, kd, σ, lo, db) K ↔ ixIn v len ∧ Ev m (pc + 1, L, .int (σ ob v.toNatClampNeg) :: st, k, s, fr, n, kd, σ, lo, db) K := by
  by_cases hc : ixIn v len
  · rw [and_iff_right hc]
    have hc1 : ¬ v < 0 := fun h => hc (Or.inl h)
    have hc2 : ¬ len ≤ v.toNatClampNeg := fun h => hc (Or.inr h)
    exact Ev_stp hl (by simp [stp, orE, stpK, stpL, stpN, stpB, stpH, stpM, nx, hc1, hc2, hk])
  · rw [Ev_no hl (by rcases Decidable.not_not.mp hc with h | h <;> simp [stp, orE, stpK, stpL, stpN, stpB, stpH, stpM, nx, h, hk]) rfl rfl]
    exact ⟨False.elim, fun h => hc h.1⟩
theorem e_laload {ob len : Nat} {v : Int32} (hl : lk m pc = some (.laload, ln, a, b, c)) (hk : kd ob = .inr (2, len, none)) : Ev m (pc, L, (.int v :: .ref ob :: st), k, s, fr, n, kd, σ, lo, db) K ↔ ixIn v len ∧ Ev m (pc + 1, L, .long (lo ob v.toNatClampNeg) :: st, k, s, fr, n, kd, σ, lo, db) K := by
  by_cases hc : ixIn v len
  · rw [and_iff_right hc]
    have hc1 : ¬ v < 0 := fun h => hc (Or.inl h)
    have hc2 : ¬ len ≤ v.toNatClampNeg := fun h => hc (Or.inr h)
    exact Ev_stp hl (by simp [stp, orE, stpK, stpL, stpN, stpB, stpH, stpM, nx, hc1, hc2, hk])
  · rw [Ev_no hl (by rcases Decidable.not_not.mp hc with h | h <;> simp [stp, orE, stpK, stpL, stpN, stpB, stpH, stpM, nx, h, hk]) rfl rfl]
    exact ⟨False.elim, fun h => hc h.1⟩
theorem e_daload {ob len : Nat} {v : Int32} (hl : lk m pc = some (.daload, ln, a, b, c)) (hk : kd ob = .inr (3, len, none)) : Ev m (pc, L, (.int v :: .ref ob :: st), k, s, fr, n, kd, σ, lo, db) K ↔ ixIn v len ∧ Ev m (pc + 1, L, .double (db ob v.toNatClampNeg) :: st, k, s, fr, n, kd, σ, lo, db) K := by
  by_cases hc : ixIn v len
  · rw [and_iff_right hc]
    have hc1 : ¬ v < 0 := fun h => hc (Or.inl h)
    have hc2 : ¬ len ≤ v.toNatClampNeg := fun h => hc (Or.inr h)
    exact Ev_stp hl (by simp [stp, orE, stpK, stpL, stpN, stpB, stpH, stpM, nx, hc1, hc2, hk])
  · rw [Ev_no hl (by rcases Decidable.not_not.mp hc with h | h <;> simp [stp, orE, stpK, stpL, stpN, stpB, stpH, stpM, nx, h, hk]) rfl rfl]
    exact ⟨False.elim, fun h => hc h.1⟩
theorem e_iastore {ob len : Nat} {v w : Int32} (hl : lk m pc = some (.iastore, ln, a, b, c)) (hk : kd ob = .inr (0, len, none)) : Ev m (pc, L, (.int w :: .int v :: .ref ob :: st), k, s, fr, n, kd, σ, lo, db) K ↔ ixIn v len ∧ Ev m (pc + 1, L, st, k, s, fr, n, kd, u2 σ ob v.toNatClampNeg w, lo, db) K := by
  by_cases hc : ixIn v len
  · rw [and_iff_right hc]
    have hc1 : ¬ v < 0 := fun h => hc (Or.inl h)
    have hc2 : ¬ len ≤ v.toNatClampNeg := fun h => hc (Or.inr h)
    exact Ev_stp hl (by simp [stp, orE, stpK, stpL, stpN, stpB, stpH, stpM, nx, hc1, hc2, hk])
  · rw [Ev_no hl (by rcases Decidable.not_not.mp hc with h | h <;> simp [stp, orE, stpK, stpL, stpN, stpB, stpH, stpM, nx, h, hk]) rfl rfl]
    exact ⟨False.elim, fun h => hc h.1⟩
theorem e_castore {ob len : Nat} {v w : Int32} (hl : lk m pc = some (.castore, ln, a, b, c)) (hk : kd ob = .inr (1, len, none)) : Ev m (pc, L, (.int w :: .int v :: .ref ob :: st), k, s, fr, n, kd, σ, lo, db) K ↔ ixIn v len ∧ Ev m (pc + 1, L, st, k, s, fr, n, kd, u2 σ ob v.toNatClampNeg (vp_nar .char w), lo, db) K := by
  by_cases hc : ixIn v len
  · rw [and_iff_right hc]
    have hc1 : ¬ v < 0 := fun h => hc (Or.inl h)
    have hc2 : ¬ len ≤ v.toNatClampNeg := fun h => hc (Or.inr h)
    exact Ev_stp hl (by simp [stp, orE, stpK, stpL, stpN, stpB, stpH, stpM, nx, hc1, hc2, hk])
  · rw [Ev_no hl (by rcases Decidable.not_not.mp hc with h | h <;> simp [stp, orE, stpK, stpL, stpN, stpB, stpH, stpM, nx, h, hk]) rfl rfl]
    exact ⟨False.elim, fun h => hc h.1⟩
theorem e_lastore {ob len : Nat} {v : Int32} {w : Int64} (hl : lk m pc = some (.lastore, ln, a, b, c)) (hk : kd ob = .inr (2, len, none)) : Ev m (pc, L, (.long w :: .int v :: .ref ob :: st), k, s, fr, n, kd, σ, lo, db) K ↔ ixIn v len ∧ Ev m (pc + 1, L, st, k, s, fr, n, kd, σ, u2 lo ob v.toNatClampNeg w, db) K := by
  by_cases hc : ixIn v len
  · rw [and_iff_right hc]
    have hc1 : ¬ v < 0 := fun h => hc (Or.inl h)
    have hc2 : ¬ len ≤ v.toNatClampNeg := fun h => hc (Or.inr h)
    exact Ev_stp hl (by simp [stp, orE, stpK, stpL, stpN, stpB, stpH, stpM, nx, hc1, hc2, hk])
  · rw [Ev_no hl (by rcases Decidable.not_not.mp hc with h | h <;> simp [stp, orE, stpK, stpL, stpN, stpB, stpH, stpM, nx, h, hk]) rfl rfl]
    exact ⟨False.elim, fun h => hc h.1⟩
theorem e_dastore {ob len : Nat} {v : Int32} {w : UInt64} (hl : lk m pc = some (.dastore, ln, a, b, c)) (hk : kd ob = .inr (3, len, none)) : Ev m (pc, L, (.double w :: .int v :: .ref ob :: st), k, s, fr, n, kd, σ, lo, db) K ↔ ixIn v len ∧ Ev m (pc + 1, L, st, k, s, fr, n, kd, σ, lo, u2 db ob v.toNatClampNeg w) K := by
  by_cases hc : ixIn v len
  · rw [and_iff_right hc]
    have hc1 : ¬ v < 0 := fun h => hc (Or.inl h)
    have hc2 : ¬ len ≤ v.toNatClampNeg := fun h => hc (Or.inr h)
    exact Ev_stp hl (by simp [stp, orE, stpK, stpL, stpN, stpB, stpH, stpM, nx, hc1, hc2, hk])
  · rw [Ev_no hl (by rcases Decidable.not_not.mp hc with h | h <;> simp [stp, orE, stpK, stpL, stpN, stpB, stpH, stpM, nx, h, hk]) rfl rfl]
    exact ⟨False.elim, fun h => hc h.1⟩
theorem e_arraylength {ob len ti : Nat} (hl : lk m pc = some (.arraylength, ln, a, b, c)) (hk : kd ob = .inr (ti, len, none)) (ht : ti < 4 ∨ (ti = 8 ∧ ob = SCR)) : Ev m (pc, L, (.ref ob :: st), k, s, fr, n, kd, σ, lo, db) K ↔ Ev m (pc + 1, L, .int (jI len) :: st, k, s, fr, n, kd, σ, lo, db) K := by
  exact Ev_stp hl (by simp [stp, orE, stpK, stpL, stpN, stpB, stpH, stpM, nx, hk, ht, jI])
theorem e_aaload {ob len ti r : Nat} {v : Int32} {f : Nat → Option Nat} (hl : lk m pc = some (.aaload, ln, a, b, c)) (hk : kd ob = .inr (ti, len, some f)) (ht : 4 ≤ ti ∧ ti < 8) (hv : ixIn v len) (hf : f v.toNatClampNeg = some r) : Ev m (pc, L, .int v :: .ref ob :: st, k, s, fr, n, kd, σ, lo, db) K ↔ Ev m (pc + 1, L, .ref r :: st, k, s, fr, n, kd, σ, lo, db) K := by
  exact Ev_stp hl (by simp only [stp, orE, stpK, stpL, stpN, stpB, stpH, stpM, nx, hk]; rw [if_pos ⟨ht.1, ht.2, hv⟩, hf])
theorem e_aastore {ob len ti ci nf r : Nat} {v : Int32} {f : Nat → Option Nat} {fx : Nat → Option Value} (hl : lk m pc = some (.aastore, ln, a, b, c)) (hk : kd ob = .inr (ti, len, some f)) (hkr : kd r = .inl (ci, nf, fx)) (ht : 4 ≤ ti ∧ ti < 8) (hc : ci = elT ti ∧ ci < 10) (hv : ixIn v len) : Ev m (pc, L, .ref r :: .int v :: .ref ob :: st, k, s, false, n, kd, σ, lo, db) K ↔ Ev m (pc + 1, L, st, k, s, false, n, uK kd ob (.inr (ti, len, some (fun j => if j = v.toNatClampNeg then some r else f j))), u2 σ ob v.toNatClampNeg (jI r), lo, db) K := by
  exact Ev_stp hl (by simp only [stp, orE, stpK, stpL, stpN, stpB, stpH, stpM, nx, hk, hkr]; rw [if_pos ⟨ht.1, ht.2, hc.1, hc.2, hv⟩]; rfl)
theorem e_ireturn {v : Int32} (hl : lk m pc = some (.ireturn, ln, a, b, c)) (h : mR m = some .int) (hk : k ≤ mC m ∧ s ≤ mS m) : Ev m (pc, L, [.int v], k, s, fr, n, kd, σ, lo, db) K ↔ K (.inl (some (.int v))) (fr, n, kd, σ, lo, db) := by
  exact Ev_fin hl rfl rfl (by simp [fin, h, hk])
theorem e_zreturn {v : Int32} (hl : lk m pc = some (.ireturn, ln, a, b, c)) (h : mR m = some .boolean) (hk : k ≤ mC m ∧ s ≤ mS m) : Ev m (pc, L, [.int v], k, s, fr, n, kd, σ, lo, db) K ↔ (v = 0 ∨ v = 1) ∧ K (.inl (some (.int v))) (fr, n, kd, σ, lo, db) := by
  by_cases hc : (v = 0 ∨ v = 1)
  · rw [and_iff_right hc]
    exact Ev_fin hl rfl rfl (by simp [fin, h, hk, hc])
  · rw [Ev_no hl rfl rfl (by simp [fin, h, hk, hc])]
    exact ⟨False.elim, fun h => hc h.1⟩
theorem e_creturn {v : Int32} (hl : lk m pc = some (.ireturn, ln, a, b, c)) (h : mR m = some .char) (hk : k ≤ mC m ∧ s ≤ mS m) : Ev m (pc, L, [.int v], k, s, fr, n, kd, σ, lo, db) K ↔ vp_nar .char v = v ∧ K (.inl (some (.int v))) (fr, n, kd, σ, lo, db) := by
  by_cases hc : vp_nar .char v = v
  · rw [and_iff_right hc]
    exact Ev_fin hl rfl rfl (by simp [fin, h, hk, hc])
  · rw [Ev_no hl rfl rfl (by simp [fin, h, hk, hc])]
    exact ⟨False.elim, fun h => hc h.1⟩
theorem e_freturn {v : UInt32} (hl : lk m pc = some (.freturn, ln, a, b, c)) (h : mR m = some .float) (hk : k ≤ mC m ∧ s ≤ mS m) : Ev m (pc, L, [.float v], k, s, fr, n, kd, σ, lo, db) K ↔ K (.inl (some (.float v))) (fr, n, kd, σ, lo, db) := by
  exact Ev_fin hl rfl rfl (by simp [fin, h, hk])
theorem e_dreturn {v : UInt64} (hl : lk m pc = some (.dreturn, ln, a, b, c)) (h : mR m = some .double) (hk : k ≤ mC m ∧ s ≤ mS m) : Ev m (pc, L, [.double v], k, s, fr, n, kd, σ, lo, db) K ↔ K (.inl (some (.double v))) (fr, n, kd, σ, lo, db) := by
  exact Ev_fin hl rfl rfl (by simp [fin, h, hk])
theorem e_return (hl : lk m pc = some (.return_, ln, a, b, c)) (h : mR m = none) (hk : k ≤ mC m ∧ s ≤ mS m) : Ev m (pc, L, [], k, s, fr, n, kd, σ, lo, db) K ↔ K (.inl none) (fr, n, kd, σ, lo, db) := by
  exact Ev_fin hl rfl rfl (by simp [fin, h, hk])
theorem e_throw {i : Nat} (hl : lk m pc = some (.new i, ln, a, b, c)) (h : (c = 1 ∨ c = 2) ∧ a < 6 ∧ mO m = 8 ∧ mH m = [] ∧ st.length ≤ 4 ∧ (∀ v ∈ st, v.category = 1) ∧ 6 ≤ mF m ∧ 90 ≤ mW m ∧ k + 1 ≤ mC m ∧ s + 6 ≤ mS m) : Ev m (pc, L, st, k, s, fr, n, kd, σ, lo, db) K ↔ K (.inr a) (false, n, kd, σ, lo, db) := by
  refine Ev_fin hl ?_ rfl (by simp only [fin]; rw [if_pos h])
  have : ¬ c = 0 := by omega
  simp [stp, orE, stpK, stpL, stpN, stpB, stpH, stpM, nx, this]
theorem e_static {i : Nat} {as st' : List Value} {L0 : Lc} (hl : lk m pc = some (.invokestatic i, ln, a, b, c)) (hc : calG m b k s c st = some (b, as, st')) (h0 : as ++ List.replicate (mL b - as.length) .null = L0) :
    Ev m (pc, L, st, k, s, fr, n, kd, σ, lo, db) K ↔ Ev b (0, L0, [], 0, 0, fr, n, kd, σ, lo, db) (BK m pc L st' k s b K) := by
  rw [Ev_cal hl (by cases st <;> rfl) (show cal m _ _ = _ from hc)]
  simp only [stx, h0]
theorem e_virtual {i o nf : Nat} {as st' : List Value} {L0 : Lc} {fx : Nat → Option Value} (hl : lk m pc = some (.invokevirtual i, ln, a, b, c)) (ho : st[c]? = some (.ref o)) (hk : kd o = .inl (mO b, nf, fx)) (h10 : mO b < 10) (hc : calG m b k s (c + 1) st = some (b, as, st')) (h0 : as ++ List.replicate (mL b - as.length) .null = L0) :
    Ev m (pc, L, st, k, s, fr, n, kd, σ, lo, db) K ↔ Ev b (0, L0, [], 0, 0, fr, n, kd, σ, lo, db) (BK m pc L st' k s b K) := by
  rw [Ev_cal hl (by cases st <;> rfl) (show cal m _ _ = _ by simp only [cal, ho, hk]; rw [if_pos (by first | exact ⟨rfl, h10⟩ | exact ⟨trivial, h10⟩)]; exact hc)]
  simp only [stx, h0]
end
