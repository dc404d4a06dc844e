/-! what the programs' rows owe to bytes and tables -/
def LinkP (own : Nat) (q : Instr × Nat × Nat × Nat) : Prop := match q.1 with
  | .ldc_w i => Cond.constant (cN own) i (Int32.ofNat q.2.1) ∈ BIG
  | .getfield i => q.2.1 < 10 ∧ q.2.2.1 < nfT q.2.1 ∧ Cond.fieldLink (cN own) i (cN q.2.1) (fT q.2.1 q.2.2.1).2.1 (fT q.2.1 q.2.2.1).2.2.1 ∈ BIG
  | .putfield i => (q.2.1 < 10 ∧ q.2.2.1 < nfT q.2.1 ∧ Cond.fieldLink (cN own) i (cN q.2.1) (fT q.2.1 q.2.2.1).2.1 (fT q.2.1 q.2.2.1).2.2.1 ∈ BIG) ∧ (q.2.2.2 = 0 → ftT q.2.1 q.2.2.1 = .int ∧ (fT q.2.1 q.2.2.1).2.2.2 = false) ∧ (q.2.2.2 = 1 → ftT q.2.1 q.2.2.1 = .boolean ∧ (fT q.2.1 q.2.2.1).2.2.2 = false) ∧ (q.2.2.2 = 2 → (∃ C, ftT q.2.1 q.2.2.1 = .object C) ∨ ∃ t, ftT q.2.1 q.2.2.1 = .array t) ∧ (q.2.2.2 = 2 → (fT q.2.1 q.2.2.1).2.2.2 = true) ∧ (q.2.2.2 = 4 → ftT q.2.1 q.2.2.1 = .int ∧ (fT q.2.1 q.2.2.1).2.2.2 = true)
  | .invokevirtual i => q.2.1 = 0 ∧ CodOk q.2.2.1 ∧ (parseMethodDescriptor (mY q.2.2.1).desc).map (fun d => d.parameters.length) = some q.2.2.2 ∧ Cond.methodLink (cN own) i (mY q.2.2.1) ∈ BIG ∧ Cond.instanceMethod (mY q.2.2.1) ∈ BIG ∧ Cond.selects (cN (mO q.2.2.1)) (mY q.2.2.1) (mY q.2.2.1) ∈ BIG ∧ mH q.2.2.1 = []
  | .invokestatic i => CodOk q.2.2.1 ∧ (parseMethodDescriptor (mY q.2.2.1).desc).map (fun d => d.parameters.length) = some q.2.2.2 ∧ Cond.static (mY q.2.2.1) ∈ BIG ∧ ((q.2.1 = 1 ∧ Cond.methodLink (cN own) i (mY q.2.2.1) ∈ BIG) ∨ (q.2.1 = 3 ∧ Cond.methodLinkNest (cN own) i (mY q.2.2.1) RX8 ∈ NGL ∧ mH q.2.2.1 = []))
  | .invokespecial i => (q.2.1 = 5 → Cond.methodLink (cN own) i Lib.objectInit ∈ BIG ∧ Cond.instanceMethod Lib.objectInit ∈ BIG ∧ Cond.code Lib.objectInit ⟨#[0xb1]⟩ 1 none ∈ BIG) ∧ (q.2.1 ≠ 5 → CodOk q.2.2.1 ∧ (parseMethodDescriptor (mY q.2.2.1).desc).map (fun d => d.parameters.length) = some q.2.2.2 ∧ Cond.instanceMethod (mY q.2.2.1) ∈ BIG ∧ (mY q.2.2.1).name = "<init>" ∧ mR q.2.2.1 = none ∧ mH q.2.2.1 = [] ∧ ((q.2.1 = 2 ∧ Cond.methodLink (cN own) i (mY q.2.2.1) ∈ BIG) ∨ (q.2.1 = 4 ∧ Cond.methodLinkNest (cN own) i (mY q.2.2.1) RX8 ∈ NGL)))
  | .new i => (q.2.2.2 = 0 → Cond.classLink (cN own) i (cN q.2.1) ∈ BIG ∧ Cond.instantiable (cN q.2.1) (nfT q.2.1) ∈ BIG ∧ Cond.initialized (cN q.2.1) ∈ BIG) ∧ (q.2.2.2 ≠ 0 → Cond.classLink (cN own) i (exN q.2.1) ∈ BIG ∧ ∃ tx, Cond.stringRef (cN own) q.2.2.1 tx ∈ lw_tbl)
  | .newarray t => newarray.typeOf t = tyT q.2.1
  | .anewarray i => ∃ C, tyT q.2.1 = .object C ∧ Cond.classLink (cN own) i C ∈ BIG
  | _ => False
def isLk : Instr → Bool
  | .ldc_w _ | .getfield _ | .putfield _ | .invokevirtual _ | .invokestatic _ | .invokespecial _ | .new _ | .newarray _ | .anewarray _ => true
  | _ => false
def isOk (x : Except DecodeError (Instr × Nat)) (i : Instr) (n : Nat) : Bool := match x with
  | .ok q => decide (q.1 = i) && decide (q.2 = n)
  | .error _ => false
theorem isOk_of {x : Except DecodeError (Instr × Nat)} {i : Instr} {n : Nat} (h : isOk x i n = true) : x = .ok (i, n) := by
  unfold isOk at h
  split at h
  · next q =>
    simp only [Bool.and_eq_true, decide_eq_true_eq] at h
    obtain ⟨rfl, rfl⟩ := h
    rfl
  · cases h
def brOk (pc : Nat) (op : Op) : Bool := match op.1 with
  | .goto off => decide ((pc : Int) + off = (op.2.2.1 : Int))
  | .ifCond _ off => decide ((pc : Int) + off = (op.2.2.1 : Int))
  | .if_icmp _ off => decide ((pc : Int) + off = (op.2.2.1 : Int))
  | _ => true
def thOk (cc : ByteArray) (pc : Nat) (op : Op) : Bool := match op.1 with
  | .new _ => op.2.2.2.2 == 0 || (isOk (decode cc (pc + 3)) .dup 1 && (op.2.2.2.2 != 1 || (isOk (decode cc (pc + 4)) (.ldc op.2.2.2.1) 2 && (isOk (decode cc (pc + 6)) (.invokespecial (exI op.2.2.1)) 3 && isOk (decode cc (pc + 9)) .athrow 1))) && (op.2.2.2.2 != 2 || (isOk (decode cc (pc + 4)) (.ldc_w op.2.2.2.1) 3 && (isOk (decode cc (pc + 7)) (.invokespecial (exI op.2.2.1)) 3 && isOk (decode cc (pc + 10)) .athrow 1))))
  | _ => true
def chk (LK : List (Instr × Nat × Nat × Nat)) (cc : ByteArray) (q : Nat × Op) : Bool :=
  isOk (decode cc q.1) q.2.1 q.2.2.1 && ((stdL q.2.1 == 0 || q.2.2.1 == stdL q.2.1) && (brOk q.1 q.2 && (thOk cc q.1 q.2 && (!isLk q.2.1 || LK.any (fun z => decide (z.1 = q.2.1) && (decide (z.2.1 = q.2.2.2.1) && (decide (z.2.2.1 = q.2.2.2.2.1) && decide (z.2.2.2 = q.2.2.2.2.2))))))))
theorem chk_ok {own : Nat} {LK : List (Instr × Nat × Nat × Nat)} {cc : ByteArray} {pg : List (Nat × Op)} {mm : Nat} (hc : pg.all (chk LK cc) = true) (hl : ∀ q ∈ LK, LinkP own q) (hO : mO mm = own) (hB : mB mm = cc)
    (hrow : ∀ q ∈ mH mm, q.2.2.2 ≠ 0 ∧ exOf q.2.2.2 < 6 ∧ Cond.classLink (cN own) q.2.2.2 (exN (exOf q.2.2.2)) ∈ BIG) (hst : ∀ q ∈ pg, (∀ i, q.2.1 ≠ .invokestatic i) ∧ (∀ i, q.2.1 ≠ .invokespecial i) ∨ mH mm = []) : ∀ q ∈ pg, OpOk mm q.1 q.2 := by
  intro q hq
  have h := List.all_eq_true.mp hc q hq
  have hs := hst q hq
  obtain ⟨pc, ins, len, a, b', c'⟩ := q
  simp only [chk, Bool.and_eq_true, Bool.or_eq_true, beq_iff_eq, Bool.not_eq_true', decide_eq_true_eq, List.any_eq_true] at h
  obtain ⟨h1, h2, h3, h4, h5⟩ := h
  subst hO
  refine ⟨by rw [hB]; exact isOk_of h1, h2, ?_⟩
  have hlk : isLk ins = true → LinkP (mO mm) (ins, a, b', c') := fun hi => by
    rcases h5 with h5 | h5
    · rw [hi] at h5; cases h5
    · obtain ⟨z, hz, e1, e2, e3, e4⟩ := h5
      obtain ⟨z1, z2, z3, z4⟩ := z
      have e1 : z1 = ins := e1
      have e2 : z2 = a := e2
      have e3 : z3 = b' := e3
      have e4 : z4 = c' := e4
      subst e1 e2 e3 e4
      exact hl _ hz
  cases ins with
  | goto off => simpa [brOk] using h3
  | ifCond c off => simpa [brOk] using h3
  | if_icmp c off => simpa [brOk] using h3
  | ldc_w i => exact hlk rfl
  | getfield i => exact hlk rfl
  | putfield i => exact hlk rfl
  | newarray t => exact hlk rfl
  | anewarray i => exact hlk rfl
  | invokevirtual i =>
    obtain ⟨g1, g2, g3, g4, g5, g6, g7⟩ := hlk rfl
    exact ⟨⟨g2, g3, g4, g5, g6, g7, hrow⟩, g1⟩
  | invokestatic i =>
    have hH : mH mm = [] := hs.elim (fun h => absurd rfl (h.1 i)) id
    obtain ⟨g1, g2, g3, ⟨g4, g5⟩ | ⟨g4, g5, g6⟩⟩ := hlk rfl
    · have g4 : a = 1 := g4
      subst g4
      exact ⟨Or.inl rfl, g1, g2, g5, g3, hH⟩
    · have g4 : a = 3 := g4
      subst g4
      exact ⟨Or.inr rfl, g1, g2, g5, g3, g6, hH⟩
  | invokespecial i =>
    have hH : mH mm = [] := hs.elim (fun h => absurd rfl (h.2 i)) id
    obtain ⟨g0, g00⟩ := hlk rfl
    refine ⟨g0, fun h5 => ?_⟩
    obtain ⟨g1, g2, g3, g4, g5, g6, ⟨g7, g8⟩ | ⟨g7, g8⟩⟩ := g00 h5
    · have g7 : a = 2 := g7
      subst g7
      exact ⟨Or.inl rfl, g1, g2, g8, g3, g4, g5, g6, hH⟩
    · have g7 : a = 4 := g7
      subst g7
      exact ⟨Or.inr rfl, g1, g2, g8, g3, g4, g5, g6, hH⟩
  | new i =>
    obtain ⟨g1, g2⟩ := hlk rfl
    by_cases hc0 : c' = 0
    · subst hc0
      exact g1 rfl
    · simp only [if_neg hc0]
      obtain ⟨g3, g4⟩ := g2 hc0
      simp only [thOk, Bool.or_eq_true, Bool.and_eq_true, beq_iff_eq, bne_iff_ne] at h4
      rcases h4 with h4 | ⟨⟨t1, t2⟩, t3⟩
      · exact absurd h4 hc0
      rw [hB]
      refine ⟨g3, isOk_of t1, g4, fun e1 => ?_, fun e2 => ?_⟩
      · rcases t2 with t2 | ⟨u1, u2, u3⟩
        · exact absurd e1 t2
        · exact ⟨isOk_of u1, isOk_of u2, isOk_of u3⟩
      · rcases t3 with t3 | ⟨u1, u2, u3⟩
        · exact absurd e2 t3
        · exact ⟨isOk_of u1, isOk_of u2, isOk_of u3⟩
  | _ => trivial

