/-! the steps of the evaluator are the machine's: constants, locals, numbers, branches -/
def isNG : Cond → Bool
  | .castable .. => true
  | .declares _ => true
  | .methodLinkNest .. => true
  | _ => false
def NGL : List Cond := lw_tbl.filter isNG
def exN (E : Nat) : String := (["java/lang/IllegalArgumentException", "java/lang/UnsupportedOperationException", "java/lang/IndexOutOfBoundsException", "java/util/NoSuchElementException", "java/lang/IllegalStateException", "java/lang/ArithmeticException"] : List String).getD E ""
/-- what holds of every state from the law's start on -/
def CX (D : va_G) (cA : Nat → ClassId) (B0 b Ln : Nat) (xs : Nat → Int32) (U : State) : Prop :=
  va_K D vwC (tysL cA) U ∧ (∀ w ∈ NGL, va_Nw w U) ∧ (∀ own k tx, Cond.stringRef own k tx ∈ lw_tbl → ∃ a, vk_R own k tx a U) ∧ vx_Zq Bundle.tN "UNASSIGNED_STACK" Bundle.steD (AA B0) U U.heap ∧ vx_Zq Bundle.tN "SUPPRESSED_SENTINEL" Bundle.listD (AA B0) U U.heap ∧ va_X b Ln xs U U.heap ∧ b < B0 ∧ B0 ≤ U.heap.size ∧ (∀ i j, i < 6 → j < 6 → i ≠ j → va_Nc (exN i) (exN j) U) ∧ (∀ C ∈ [RX3, RX2, RX1, RX5], va_AO C U)
theorem CX.moved {D : va_G} {cA : Nat → ClassId} {B0 b Ln : Nat} {xs : Nat → Int32} {s U : State} (h : CX D cA B0 b Ln xs s) (hW : s.WarmedH U.vm) (hz : s.heap.size ≤ U.heap.size) (hq : ∀ q : Nat, q < s.heap.size → ¬ AA B0 q → U.heap[q]? = s.heap[q]?) : CX D cA B0 b Ln xs U := by
  obtain ⟨h1, h2, h3, h4, h5, h6, h7, h8, h9, h10⟩ := h
  have hb : ¬ AA B0 b := fun q => absurd h7 (Nat.not_lt.mpr q)
  refine ⟨va_K.moved hW.alike h1, fun w hw => ?_, fun own k tx hw => ?_, ?_, ?_, ?_, h7, Nat.le_trans h8 hz, fun i j hi hj hne => (h9 i j hi hj hne).moved hW.alike, fun C hC => (h10 C hC).moved hW.alike⟩
  · have h := h2 w hw
    have hg := (List.mem_filter.mp hw).2
    cases w <;> simp only [isNG, Bool.false_eq_true] at hg
    · exact va_Nw.warmM hW h
    · exact va_Nw.warmD hW h
    · exact va_Nw.warmC hW h
  · obtain ⟨a, ha⟩ := h3 own k tx hw
    exact ⟨a, vk_R.warm hW ha⟩
  · exact vx_Zq.moved hW.alike (h4.kept hq)
  · exact vx_Zq.moved hW.alike (h5.kept hq)
  · exact (h6.moved hW.alike).kept (hq b (Nat.lt_of_lt_of_le h7 h8) hb)
def rmM (mm : Nat) : Room := { frames := mF mm, cells := mC mm, slots := mS mm, locals := mW mm }
/-- what stands in a method's body -/
def BX (D : va_G) (cA : Nat → ClassId) (B0 b Ln : Nat) (xs : Nat → Int32) (mm : Nat) (p : Program) (s : State) (m : MethodId) (args : Array Value) (meth : Method) (c : Code) : Prop :=
  p.tables.exec = Jvm.exec ∧ c.code = mB mm ∧ meth.sig.returnType = mR mm ∧ c.maxLocals = mL mm ∧ s.vm.findClass (cN (mO mm)) = some m.cls ∧ (∀ w ∈ BIG, w.before args s = true) ∧ meth.locks = false ∧ c.exceptionTable.toList = tableOf (mH mm) ∧ ((mY mm).name = "<init>" → meth.name = "<init>") ∧ CX D cA B0 b Ln xs s
/-- from this state of the evaluator the machine comes to Q -/
def WS (D : va_G) (cA : Nat → ClassId) (B0 b Ln : Nat) (xs : Nat → Int32) (mm : Nat) (p : Program) (l : Launch) (e : Env) (s : State) (m : MethodId) (args : Array Value) (below : List Frame) (meth : Method) (c : Code) (Q : State → Prop) (x : Sx) : Prop :=
  ∀ (H : Heap) (locs : List Loc) (ls : Array Slot), LVr b B0 mm ls x.2.1 → RelM D cA B0 b Ln xs x.2.2.2.2.2 H → va_S (AA B0) s.heap H locs → W p l e (rmM mm) s m args below meth c H locs x.2.2.2.1 x.2.2.2.2.1 Q (F0 m x.1 ls (x.2.2.1.map (rv b B0)))
def stdL : Instr → Nat
  | .bipush _ | .iload _ | .aload _ | .fload _ | .dload _ | .istore _ | .astore _ | .fstore _ | .dstore _ | .newarray _ => 2
  | .sipush _ | .ldc_w _ | .goto _ | .ifCond _ _ | .if_icmp _ _ | .getfield _ | .putfield _ | .new _ | .anewarray _ | .invokevirtual _ | .invokestatic _ | .invokespecial _ | .iinc _ _ => 3
  | .tableswitch .. | .lookupswitch .. => 0
  | _ => 1
def FldOk (mm i ci k : Nat) : Prop := ci < 10 ∧ k < nfT ci ∧ Cond.fieldLink (cN (mO mm)) i (cN ci) (fT ci k).2.1 (fT ci k).2.2.1 ∈ BIG
def CodOk (c : Nat) : Prop := (if mH c = [] then Cond.code (mY c) (mB c) (mL c) (mR c) ∈ BIG else Cond.codeWith (mY c) (mB c) (mL c) (mR c) (mH c) ∈ BIG) ∧ (plainFor (mY c) = true ∧ (mH c = [] ∨ plainName (mY c).cls = true)) ∧ (mY c).cls = cN (mO c) ∧ Cond.initialized (cN (mO c)) ∈ BIG ∧ ((mY c).cls ≠ "java/lang/invoke/MethodHandle" ∧ (mY c).cls ≠ "java/lang/invoke/VarHandle")
def CalOk (mm i kind c n : Nat) : Prop := CodOk c ∧ (parseMethodDescriptor (mY c).desc).map (fun d => d.parameters.length) = some n ∧
  match kind with
  | 0 => Cond.methodLink (cN (mO mm)) i (mY c) ∈ BIG ∧ Cond.instanceMethod (mY c) ∈ BIG ∧ Cond.selects (cN (mO c)) (mY c) (mY c) ∈ BIG ∧ mH c = [] ∧ ∀ q ∈ mH mm, q.2.2.2 ≠ 0 ∧ exOf q.2.2.2 < 6 ∧ Cond.classLink (cN (mO mm)) q.2.2.2 (exN (exOf q.2.2.2)) ∈ BIG
  | 1 => Cond.methodLink (cN (mO mm)) i (mY c) ∈ BIG ∧ Cond.static (mY c) ∈ BIG ∧ mH mm = []
  | 2 => Cond.methodLink (cN (mO mm)) i (mY c) ∈ BIG ∧ Cond.instanceMethod (mY c) ∈ BIG ∧ (mY c).name = "<init>" ∧ mR c = none ∧ mH c = [] ∧ mH mm = []
  | 3 => Cond.methodLinkNest (cN (mO mm)) i (mY c) RX8 ∈ NGL ∧ Cond.static (mY c) ∈ BIG ∧ mH c = [] ∧ mH mm = []
  | 4 => Cond.methodLinkNest (cN (mO mm)) i (mY c) RX8 ∈ NGL ∧ Cond.instanceMethod (mY c) ∈ BIG ∧ (mY c).name = "<init>" ∧ mR c = none ∧ mH c = [] ∧ mH mm = []
  | _ => False
def exI (E : Nat) : Nat := ([55, 87, 99, 204, 275, 335] : List Nat).getD E 0
/-- what a row of a program owes to the bytes and the tables -/
def OpOk (mm pc : Nat) (op : Op) : Prop := decode (mB mm) pc = .ok (op.1, op.2.1) ∧ (stdL op.1 = 0 ∨ op.2.1 = stdL op.1) ∧
  match op.1 with
  | .goto off => (pc : Int) + off = (op.2.2.1 : Int)
  | .ifCond _ off => (pc : Int) + off = (op.2.2.1 : Int)
  | .if_icmp _ off => (pc : Int) + off = (op.2.2.1 : Int)
  | .ldc_w i => Cond.constant (cN (mO mm)) i (Int32.ofNat op.2.2.1) ∈ BIG
  | .getfield i => FldOk mm i op.2.2.1 op.2.2.2.1
  | .putfield i => FldOk mm i op.2.2.1 op.2.2.2.1 ∧ (op.2.2.2.2 = 0 → ftT op.2.2.1 op.2.2.2.1 = .int ∧ (fT op.2.2.1 op.2.2.2.1).2.2.2 = false) ∧ (op.2.2.2.2 = 1 → ftT op.2.2.1 op.2.2.2.1 = .boolean ∧ (fT op.2.2.1 op.2.2.2.1).2.2.2 = false) ∧ (op.2.2.2.2 = 2 → (∃ C, ftT op.2.2.1 op.2.2.2.1 = .object C) ∨ ∃ t, ftT op.2.2.1 op.2.2.2.1 = .array t) ∧ (op.2.2.2.2 = 2 → (fT op.2.2.1 op.2.2.2.1).2.2.2 = true) ∧ (op.2.2.2.2 = 4 → ftT op.2.2.1 op.2.2.2.1 = .int ∧ (fT op.2.2.1 op.2.2.2.1).2.2.2 = true)
  | .invokevirtual i => CalOk mm i 0 op.2.2.2.1 op.2.2.2.2 ∧ op.2.2.1 = 0
  | .invokestatic i => (op.2.2.1 = 1 ∨ op.2.2.1 = 3) ∧ CalOk mm i op.2.2.1 op.2.2.2.1 op.2.2.2.2
  | .invokespecial i => (op.2.2.1 = 5 → Cond.methodLink (cN (mO mm)) i Lib.objectInit ∈ BIG ∧ Cond.instanceMethod Lib.objectInit ∈ BIG ∧ Cond.code Lib.objectInit ⟨#[0xb1]⟩ 1 none ∈ BIG) ∧ (op.2.2.1 ≠ 5 → (op.2.2.1 = 2 ∨ op.2.2.1 = 4) ∧ CalOk mm i op.2.2.1 op.2.2.2.1 op.2.2.2.2)
  | .new i => if op.2.2.2.2 = 0 then Cond.classLink (cN (mO mm)) i (cN op.2.2.1) ∈ BIG ∧ Cond.instantiable (cN op.2.2.1) (nfT op.2.2.1) ∈ BIG ∧ Cond.initialized (cN op.2.2.1) ∈ BIG
      else Cond.classLink (cN (mO mm)) i (exN op.2.2.1) ∈ BIG ∧ decode (mB mm) (pc + 3) = .ok (.dup, 1) ∧ (∃ tx, Cond.stringRef (cN (mO mm)) op.2.2.2.1 tx ∈ lw_tbl) ∧
        (op.2.2.2.2 = 1 → decode (mB mm) (pc + 4) = .ok (.ldc op.2.2.2.1, 2) ∧ decode (mB mm) (pc + 6) = .ok (.invokespecial (exI op.2.2.1), 3) ∧ decode (mB mm) (pc + 9) = .ok (.athrow, 1)) ∧
        (op.2.2.2.2 = 2 → decode (mB mm) (pc + 4) = .ok (.ldc_w op.2.2.2.1, 3) ∧ decode (mB mm) (pc + 7) = .ok (.invokespecial (exI op.2.2.1), 3) ∧ decode (mB mm) (pc + 10) = .ok (.athrow, 1))
  | .newarray t => newarray.typeOf t = tyT op.2.2.1
  | .anewarray i => ∃ C, tyT op.2.2.1 = .object C ∧ Cond.classLink (cN (mO mm)) i C ∈ BIG
  | _ => True
section OK
variable {D : va_G} {cA : Nat → ClassId} {B0 b Ln : Nat} {xs : Nat → Int32} {mm : Nat} {p : Program} {l : Launch} {e : Env} {s : State} {m : MethodId} {args : Array Value} {below : List Frame} {meth : Method} {c : Code} {Q : State → Prop}
theorem okK (hB : BX D cA B0 b Ln xs mm p s m args meth c) {op : Op} {x x' : Sx} (hk : OpOk mm x.1 op) (h : stpK op x = some x') (k : WS D cA B0 b Ln xs mm p l e s m args below meth c Q x') : WS D cA B0 b Ln xs mm p l e s m args below meth c Q x := by
  obtain ⟨hx, hb, -, -, hown, hts, -⟩ := hB
  obtain ⟨pc, L, st, kc, sc, μ⟩ := x
  obtain ⟨ins, len, a, b', c'⟩ := op
  obtain ⟨hd, hl, ho⟩ := hk
  intro H locs ls hL hM hS
  cases ins with
  | iconst n =>
    simp only [stpK, nx, Option.some.injEq] at h
    subst h
    have hl : len = 1 := by simpa [stdL] using hl
    subst hl
    exact lv_iconst hx hb hd rfl (k H locs ls hL hM hS)
  | bipush n =>
    simp only [stpK, nx, Option.some.injEq] at h
    subst h
    have hl : len = 2 := by simpa [stdL] using hl
    subst hl
    exact lv_bipush hx hb hd rfl (k H locs ls hL hM hS)
  | sipush n =>
    simp only [stpK, nx, Option.some.injEq] at h
    subst h
    have hl : len = 3 := by simpa [stdL] using hl
    subst hl
    exact lv_sipush hx hb hd rfl (k H locs ls hL hM hS)
  | ldc_w i =>
    simp only [stpK, nx, Option.some.injEq] at h
    subst h
    have hl : len = 3 := by simpa [stdL] using hl
    subst hl
    exact lv_ldcw hx hb hown (hts _ ho) hd (k H locs ls hL hM hS)
  | lconst n =>
    simp only [stpK, nx, Option.some.injEq] at h
    subst h
    have hl : len = 1 := by simpa [stdL] using hl
    subst hl
    exact lv_lconst hx hb hd rfl (k H locs ls hL hM hS)
  | fconst n =>
    simp only [stpK, nx] at h
    split at h
    · next hn =>
      subst hn
      cases h
      have hl : len = 1 := by simpa [stdL] using hl
      subst hl
      exact lv_fconst0 hx hb hd (k H locs ls hL hM hS)
    · cases h
  | dconst n =>
    simp only [stpK, nx] at h
    split at h
    · next hn =>
      subst hn
      cases h
      have hl : len = 1 := by simpa [stdL] using hl
      subst hl
      exact lv_dconst0 hx hb hd (k H locs ls hL hM hS)
    · cases h
  | goto off =>
    simp only [stpK, nx, Option.some.injEq] at h
    subst h
    have hl : len = 3 := by simpa [stdL] using hl
    subst hl
    exact lv_goto hx hb hd ho (k H locs ls hL hM hS)
  | _ => exact absurd h (by simp [stpK])
theorem LVr.int {mm : Nat} {ls : Array Slot} {L : Lc} (h : LVr b B0 mm ls L) {i : Nat} {v : Int32} (hv : L[i]? = some (.int v)) : ls[i]? = some (.val (.int v)) := h.2.2.1 _ _ hv (by simp)
theorem LVr.ref {mm : Nat} {ls : Array Slot} {L : Lc} (h : LVr b B0 mm ls L) {i : Nat} {v : Nat} (hv : L[i]? = some (.ref v)) : ls[i]? = some (.val (.ref (adr b B0 v))) := h.2.2.1 _ _ hv (by simp)
theorem ldI_spec {pc : Nat} {L : Lc} {st : List Value} {k' s' : Nat} {μ : Me} {i : Nat} {x' : Sx} (h : ldI pc L st k' s' μ i = some x') : ∃ v, L[i]? = some (.int v) ∧ x' = (pc, L, .int v :: st, k', s', μ) := by
  unfold ldI at h
  split at h
  · next v hv => cases h; exact ⟨v, hv, rfl⟩
  · cases h
theorem ldA_spec {pc : Nat} {L : Lc} {st : List Value} {k' s' : Nat} {μ : Me} {i : Nat} {x' : Sx} (h : ldA pc L st k' s' μ i = some x') : ∃ v, L[i]? = some (.ref v) ∧ x' = (pc, L, .ref v :: st, k', s', μ) := by
  unfold ldA at h
  split at h
  · next v hv => cases h; exact ⟨v, hv, rfl⟩
  · cases h
theorem stI_spec {mm pc : Nat} {L : Lc} {st : List Value} {k' s' : Nat} {μ : Me} {i : Nat} {x' : Sx} (h : stI mm pc L st k' s' μ i = some x') : ∃ v st', st = .int v :: st' ∧ i < mL mm ∧ x' = (pc, wrL mm L i (.int v), st', k', s', μ) := by
  unfold stI at h
  split at h
  · next v st' =>
    split at h
    · next hi => cases h; exact ⟨v, st', rfl, hi, rfl⟩
    · cases h
  · cases h
theorem stA_spec {mm pc : Nat} {L : Lc} {st : List Value} {k' s' : Nat} {μ : Me} {i : Nat} {x' : Sx} (h : stA mm pc L st k' s' μ i = some x') : ∃ v st', st = .ref v :: st' ∧ i < mL mm ∧ x' = (pc, wrL mm L i (.ref v), st', k', s', μ) := by
  unfold stA at h
  split at h
  · next v st' =>
    split at h
    · next hi => cases h; exact ⟨v, st', rfl, hi, rfl⟩
    · cases h
  · cases h
theorem okL (hB : BX D cA B0 b Ln xs mm p s m args meth c) {op : Op} {x x' : Sx} (hk : OpOk mm x.1 op) (h : stpL mm op x = some x') (k : WS D cA B0 b Ln xs mm p l e s m args below meth c Q x') : WS D cA B0 b Ln xs mm p l e s m args below meth c Q x := by
  obtain ⟨hx, hb, -, -, hown, hts, -⟩ := hB
  obtain ⟨pc, L, st, kc, sc, μ⟩ := x
  obtain ⟨ins, len, a, b', c'⟩ := op
  obtain ⟨hd, hl, ho⟩ := hk
  intro H locs ls hL hM hS
  cases ins with
  | iload_n i =>
    obtain ⟨v, hv, rfl⟩ := ldI_spec h
    have hl : len = 1 := by simpa [stdL] using hl
    subst hl
    exact lv_iload_n hx hb hd rfl (hL.int hv) (k H locs ls hL hM hS)
  | iload i =>
    obtain ⟨v, hv, rfl⟩ := ldI_spec h
    have hl : len = 2 := by simpa [stdL] using hl
    subst hl
    exact lv_iload hx hb hd (hL.int hv) (k H locs ls hL hM hS)
  | aload_n i =>
    obtain ⟨v, hv, rfl⟩ := ldA_spec h
    have hl : len = 1 := by simpa [stdL] using hl
    subst hl
    exact lv_aload_n hx hb hd rfl (hL.ref hv) (k H locs ls hL hM hS)
  | aload i =>
    obtain ⟨v, hv, rfl⟩ := ldA_spec h
    have hl : len = 2 := by simpa [stdL] using hl
    subst hl
    exact lv_aload hx hb hd (hL.ref hv) (k H locs ls hL hM hS)
  | fload i =>
    simp only [stpL] at h
    split at h
    · next v hv =>
      cases h
      have hl : len = 2 := by simpa [stdL] using hl
      subst hl
      exact lv_fload hx hb hd (hL.2.2.1 _ _ hv (by simp)) (k H locs ls hL hM hS)
    · cases h
  | dload i =>
    simp only [stpL] at h
    split at h
    · next v hv =>
      cases h
      have hl : len = 2 := by simpa [stdL] using hl
      subst hl
      exact lv_dload hx hb hd (hL.2.2.1 _ _ hv (by simp)) (k H locs ls hL hM hS)
    · cases h
  | istore_n i =>
    obtain ⟨v, st', hst, hi, rfl⟩ := stI_spec h
    have hl : len = 1 := by simpa [stdL] using hl
    subst hl
    subst hst
    exact lv_istore_n hx hb hd rfl hL.has hi rfl (fun ls' h' => k H locs ls' (hL.store (v := .int v) rfl h') hM hS)
  | istore i =>
    obtain ⟨v, st', hst, hi, rfl⟩ := stI_spec h
    have hl : len = 2 := by simpa [stdL] using hl
    subst hl
    subst hst
    exact lv_istore hx hb hd hL.has hi rfl (fun ls' h' => k H locs ls' (hL.store (v := .int v) rfl h') hM hS)
  | astore_n i =>
    obtain ⟨v, st', hst, hi, rfl⟩ := stA_spec h
    have hl : len = 1 := by simpa [stdL] using hl
    subst hl
    subst hst
    exact lv_astore_n hx hb hd rfl hL.has hi rfl (fun ls' h' => k H locs ls' (hL.store (v := .ref v) rfl h') hM hS)
  | astore i =>
    obtain ⟨v, st', hst, hi, rfl⟩ := stA_spec h
    have hl : len = 2 := by simpa [stdL] using hl
    subst hl
    subst hst
    exact lv_astore hx hb hd hL.has hi rfl (fun ls' h' => k H locs ls' (hL.store (v := .ref v) rfl h') hM hS)
  | fstore i =>
    simp only [stpL] at h
    split at h
    · next v st' =>
      split at h
      · next hi =>
        cases h
        have hl : len = 2 := by simpa [stdL] using hl
        subst hl
        exact lv_fstore hx hb hd hL.has hi rfl (fun ls' h' => k H locs ls' (hL.store (v := .float v) rfl h') hM hS)
      · cases h
    · cases h
  | dstore i =>
    simp only [stpL] at h
    split at h
    · next v st' =>
      split at h
      · next hi =>
        cases h
        have hl : len = 2 := by simpa [stdL] using hl
        subst hl
        exact lv_dstore hx hb hd hL.has hi.1 rfl (fun ls' h' => k H locs ls' (hL.store2 (v := .double v) hi.2 h') hM hS)
      · cases h
    · cases h
  | iinc i n =>
    simp only [stpL] at h
    split at h
    · next v hv =>
      split at h
      · next hi =>
        cases h
        obtain ⟨hi, hl3⟩ := hi
        subst hl3
        have hm : (i, rv b B0 (.int v)) ∈ toAl b B0 L := mem_toAl.mpr ⟨.int v, hv, by simp, rfl⟩
        obtain ⟨q, hq⟩ := List.getElem?_of_mem hm
        exact lv_iinc hx hb hd hL.has hq rfl hi rfl (fun ls' h' => k H locs ls' (hL.store (v := .int (v + Int32.ofInt n)) rfl h') hM hS)
      · cases h
    · cases h
  | _ => exact absurd h (by simp [stpL])
end OK
