/-! THE LAW'S BEGINNING runs the same whatever lies in the script: a run over a memory without it, and with it -/
section
variable {K0 : Kd} {xs : Nat → Int32} {m : Nat}
def pK (K0 : Kd) (kd : Nat → Kd) : Nat → Kd := fun a => if a = SCR then K0 else kd a
def pS (xs : Nat → Int32) (σ : Nat → Nat → Int32) : Nat → Nat → Int32 := fun a j => if a = SCR then xs j else σ a j
def pM (K0 : Kd) (xs : Nat → Int32) (μ : Me) : Me := (μ.1, μ.2.1, pK K0 μ.2.2.1, pS xs μ.2.2.2.1, μ.2.2.2.2)
def pX (K0 : Kd) (xs : Nat → Int32) (x : Sx) : Sx := (x.1, x.2.1, x.2.2.1, x.2.2.2.1, x.2.2.2.2.1, pM K0 xs x.2.2.2.2.2)
theorem pK_ne {kd : Nat → Kd} {o : Nat} (h : o ≠ SCR) : pK K0 kd o = kd o := if_neg h
theorem pK_uK {kd : Nat → Kd} {o : Nat} {v : Kd} (h : o ≠ SCR) : pK K0 (uK kd o v) = uK (pK K0 kd) o v := by
  funext a
  unfold pK uK
  by_cases q : a = o
  · rw [if_pos q, if_neg (fun e => h (q.symm.trans e)), if_pos q]
  · rw [if_neg q, if_neg q]
theorem pS_ne {σ : Nat → Nat → Int32} {o j : Nat} (h : o ≠ SCR) : pS xs σ o j = σ o j := if_neg h
theorem pS_u2 {σ : Nat → Nat → Int32} {o j : Nat} {v : Int32} (h : o ≠ SCR) : pS xs (u2 σ o j v) = u2 (pS xs σ) o j v := by
  funext a q
  unfold pS u2
  by_cases z : a = o ∧ q = j
  · rw [if_pos z, if_neg (fun e => h (z.1.symm.trans e)), if_pos z]
  · rw [if_neg z, if_neg z]
theorem pS_n {σ : Nat → Nat → Int32} {n : Nat} (h : n ≠ SCR) : pS xs (fun a j => if a = n then 0 else σ a j) = fun a j => if a = n then 0 else pS xs σ a j := by
  funext a q
  unfold pS
  dsimp only
  by_cases z : a = n
  · rw [if_pos z, if_neg (fun e => h (z.symm.trans e)), if_pos z]
  · rw [if_neg z, if_neg z]
theorem uK_scr {kd : Nat → Kd} {o : Nat} {v : Kd} (h : o ≠ SCR) (hd : kd SCR = dead) : uK kd o v SCR = dead := by
  unfold uK; rw [if_neg (fun e => h e.symm)]; exact hd
def kdX (x : Sx) : Kd := x.2.2.2.2.2.2.2.1 SCR
theorem orE_n {α : Type} {a : Option α} : orE a none = a := by cases a <;> rfl
theorem inl_ne {kd : Nat → Kd} (hd : kd SCR = dead) {o : Nat} {q : Nat × Nat × (Nat → Option Value)} (h : kd o = .inl q) : o ≠ SCR := by
  rintro rfl; rw [hd] at h; cases h
theorem inr_ne {kd : Nat → Kd} (hd : kd SCR = dead) {o ti len : Nat} {f : Option (Nat → Option Nat)} (h : kd o = .inr (ti, len, f)) (ht : ti < 9) : o ≠ SCR := by
  rintro rfl; rw [hd] at h; cases h; omega
/-- the instructions of the constructors that are no calls and no ends -/
def plainI : Instr → Bool
  | .aload_n _ | .iconst _ | .bipush _ | .sipush _ | .anewarray _ | .putfield _ | .newarray _ | .new _ | .dup | .istore_n _ | .iload_n _ | .if_icmp .ge _ | .getfield _ | .aastore | .aaload | .iinc _ _ | .goto _ | .iastore | .astore_n _ | .astore _ | .istore _ | .invokespecial _ => true
  | _ => false
variable {ln a b c pc k s n : Nat} {L : Lc} {st : List Value} {fr : Bool} {kd : Nat → Kd} {σ : Nat → Nat → Int32} {lo : Nat → Nat → Int64} {db : Nat → Nat → UInt64} {x' : Sx}
theorem no {x' : Sx} (h : (none : Option Sx) = some x') : False := by cases h
theorem stp_p {op : Op} (hp : plainI op.1 = true) (h : stp m op (pc, L, st, k, s, fr, n, kd, σ, lo, db) = some x') (hd : kd SCR = dead) : stp m op (pc, L, st, k, s, pM K0 xs (fr, n, kd, σ, lo, db)) = some (pX K0 xs x') ∧ kdX x' = dead := by
  obtain ⟨ins, ln, a, b, c⟩ := op
  cases ins <;> first | (exfalso; revert hp; exact Bool.false_ne_true) | skip
  all_goals clear hp
  case iconst i => cases h; exact ⟨rfl, hd⟩
  case bipush i => cases h; exact ⟨rfl, hd⟩
  case sipush i => cases h; exact ⟨rfl, hd⟩
  case goto i => cases h; exact ⟨rfl, hd⟩
  case iload_n i =>
    have h : orE (ldI (pc + 1) L st k s (fr, n, kd, σ, lo, db) i) none = some x' := h
    rw [orE_n] at h
    obtain ⟨v, hv, rfl⟩ := ldI_spec h
    refine ⟨?_, hd⟩
    show orE (ldI (pc + 1) L st k s (pM K0 xs (fr, n, kd, σ, lo, db)) i) none = _
    rw [orE_n]; unfold ldI; rw [hv]; rfl
  case aload_n i =>
    have h : orE (ldA (pc + 1) L st k s (fr, n, kd, σ, lo, db) i) none = some x' := h
    rw [orE_n] at h
    obtain ⟨v, hv, rfl⟩ := ldA_spec h
    refine ⟨?_, hd⟩
    show orE (ldA (pc + 1) L st k s (pM K0 xs (fr, n, kd, σ, lo, db)) i) none = _
    rw [orE_n]; unfold ldA; rw [hv]; rfl
  case istore_n i =>
    have h : orE (stI m (pc + 1) L st k s (fr, n, kd, σ, lo, db) i) none = some x' := h
    rw [orE_n] at h
    obtain ⟨v, st', rfl, hi, rfl⟩ := stI_spec h
    refine ⟨?_, hd⟩
    show orE (if (i : Nat) < mL m then nx (pc + 1) (wrL m L i (.int v)) st' k s (pM K0 xs (fr, n, kd, σ, lo, db)) else none) none = _
    rw [orE_n, if_pos hi]; rfl
  case istore i =>
    have h : orE (stI m (pc + 2) L st k s (fr, n, kd, σ, lo, db) i) none = some x' := h
    rw [orE_n] at h
    obtain ⟨v, st', rfl, hi, rfl⟩ := stI_spec h
    refine ⟨?_, hd⟩
    show orE (if i < mL m then nx (pc + 2) (wrL m L i (.int v)) st' k s (pM K0 xs (fr, n, kd, σ, lo, db)) else none) none = _
    rw [orE_n, if_pos hi]; rfl
  case astore_n i =>
    have h : orE (stA m (pc + 1) L st k s (fr, n, kd, σ, lo, db) i) none = some x' := h
    rw [orE_n] at h
    obtain ⟨v, st', rfl, hi, rfl⟩ := stA_spec h
    refine ⟨?_, hd⟩
    show orE (if (i : Nat) < mL m then nx (pc + 1) (wrL m L i (.ref v)) st' k s (pM K0 xs (fr, n, kd, σ, lo, db)) else none) none = _
    rw [orE_n, if_pos hi]; rfl
  case astore i =>
    have h : orE (stA m (pc + 2) L st k s (fr, n, kd, σ, lo, db) i) none = some x' := h
    rw [orE_n] at h
    obtain ⟨v, st', rfl, hi, rfl⟩ := stA_spec h
    refine ⟨?_, hd⟩
    show orE (if i < mL m then nx (pc + 2) (wrL m L i (.ref v)) st' k s (pM K0 xs (fr, n, kd, σ, lo, db)) else none) none = _
    rw [orE_n, if_pos hi]; rfl
  case iinc i z =>
    have h : orE (stpL m (.iinc i z, ln, a, b, c) (pc, L, st, k, s, fr, n, kd, σ, lo, db)) none = some x' := h
    rw [orE_n] at h
    show orE (stpL m (.iinc i z, ln, a, b, c) (pc, L, st, k, s, pM K0 xs (fr, n, kd, σ, lo, db))) none = _ ∧ _
    rw [orE_n]
    simp only [stpL] at h ⊢
    split at h
    · next v hv =>
      split at h
      · next hi => cases h; simp only [hv, if_pos hi]; exact ⟨rfl, hd⟩
      · exact (no h).elim
    · exact (no h).elim
  case dup =>
    rcases st with _ | ⟨v, st⟩
    · exact (no h).elim
    · have h : orE (if v.category = 1 then nx (pc + 1) L (v :: v :: st) k s (fr, n, kd, σ, lo, db) else none) none = some x' := h
      rw [orE_n] at h
      show orE (if v.category = 1 then nx (pc + 1) L (v :: v :: st) k s (pM K0 xs (fr, n, kd, σ, lo, db)) else none) none = _ ∧ _
      rw [orE_n]
      split at h
      · next hv => rw [if_pos hv]; cases h; exact ⟨rfl, hd⟩
      · exact (no h).elim
  case if_icmp q off =>
    rcases st with _ | ⟨v, _ | ⟨w, st⟩⟩
    · cases q <;> exact (no h).elim
    · cases q <;> cases v <;> exact (no h).elim
    · cases q <;> cases v <;> first | exact (no h).elim | skip
      all_goals cases w <;> first | exact (no h).elim | skip
      all_goals
        have h := (orE_n (a := stpB _ _)).symm.trans h
        simp only [stpB] at h
        show orE (stpB _ _) none = _ ∧ _
        rw [orE_n]
        simp only [stpB]
        split at h <;> next z => first | (rw [if_pos z]; cases h; exact ⟨rfl, hd⟩) | (rw [if_neg z]; cases h; exact ⟨rfl, hd⟩)
  case getfield i =>
    rcases st with _ | ⟨v, st⟩
    · exact (no h).elim
    · cases v <;> first | exact (no h).elim | skip
      next o =>
        have h := (orE_n (a := stpH m (.getfield i, ln, a, b, c) _)).symm.trans h
        show orE (stpH m (.getfield i, ln, a, b, c) _) none = _ ∧ _
        rw [orE_n]
        simp only [stpH] at h
        split at h
        · next ci nf fx hk =>
          split at h
          · next q =>
            cases h
            have ho := inl_ne hd hk
            simp only [stpH, pM, pK_ne ho, hk, if_pos q, pS_ne ho]
            exact ⟨rfl, hd⟩
          · exact (no h).elim
        · exact (no h).elim
  case putfield i =>
    rcases st with _ | ⟨v, _ | ⟨w, st⟩⟩
    · exact (no h).elim
    · cases v <;> exact (no h).elim
    · cases v <;> first | exact (no h).elim | skip
      all_goals cases w <;> first | exact (no h).elim | skip
      all_goals
        have h := (orE_n (a := stpH m (.putfield i, ln, a, b, c) _)).symm.trans h
        show orE (stpH m (.putfield i, ln, a, b, c) _) none = _ ∧ _
        rw [orE_n]
        simp only [stpH] at h
        split at h
        · next ci nf fx hk =>
          split at h
          · next q =>
            cases h
            have ho := inl_ne hd hk
            simp only [stpH, pM, pK_ne ho, hk, if_pos q, nx, pX, ← pS_u2 ho, ← pK_uK ho]
            refine ⟨trivial, ?_⟩
            first | exact hd | exact uK_scr ho hd
          · next q =>
            first
            | exact (no h).elim
            | (split at h
               · next q2 =>
                 cases h
                 have ho := inl_ne hd hk
                 simp only [stpH, pM, pK_ne ho, hk, if_neg q, if_pos q2, nx, pX, ← pK_uK ho]
                 exact ⟨trivial, uK_scr ho hd⟩
               · exact (no h).elim)
        · exact (no h).elim
  case iastore =>
    rcases st with _ | ⟨v, _ | ⟨w, _ | ⟨u, st⟩⟩⟩
    · exact (no h).elim
    · cases v <;> exact (no h).elim
    · cases v <;> first | exact (no h).elim | skip
      all_goals cases w <;> exact (no h).elim
    · cases v <;> first | exact (no h).elim | skip
      all_goals cases w <;> first | exact (no h).elim | skip
      all_goals cases u <;> first | exact (no h).elim | skip
      all_goals
        have h := (orE_n (a := stpH m (.iastore, ln, a, b, c) _)).symm.trans h
        show orE (stpH m (.iastore, ln, a, b, c) _) none = _ ∧ _
        rw [orE_n]
        simp only [stpH] at h
        split at h
        · next ti len hk =>
          split at h
          · next q =>
            cases h
            have ho := inr_ne hd hk (by omega)
            simp only [stpH, pM, pK_ne ho, hk, if_pos q, nx, pX, ← pS_u2 ho]
            exact ⟨trivial, hd⟩
          · exact (no h).elim
        · exact (no h).elim
  case aastore =>
    rcases st with _ | ⟨v, _ | ⟨w, _ | ⟨u, st⟩⟩⟩
    · exact (no h).elim
    · cases v <;> exact (no h).elim
    · cases v <;> first | exact (no h).elim | skip
      all_goals cases w <;> exact (no h).elim
    · cases v <;> first | exact (no h).elim | skip
      all_goals cases w <;> first | exact (no h).elim | skip
      all_goals cases u <;> first | exact (no h).elim | skip
      all_goals
        have h := (orE_n (a := stpH m (.aastore, ln, a, b, c) _)).symm.trans h
        show orE (stpH m (.aastore, ln, a, b, c) _) none = _ ∧ _
        rw [orE_n]
        simp only [stpH] at h
        split at h
        · next ti len f ci nf fx hk hv =>
          split at h
          · next q =>
            have ho := inr_ne hd hk (by omega)
            have hw := inl_ne hd hv
            cases fr
            · cases h
              simp only [stpH, pM, pK_ne ho, pK_ne hw, hk, hv, if_pos q, nx, pX, ← pK_uK ho, ← pS_u2 ho]
              exact ⟨trivial, uK_scr ho hd⟩
            · cases h
              simp only [stpH, pM, pK_ne ho, pK_ne hw, hk, hv, if_pos q, nx, pX, ← pK_uK ho]
              exact ⟨trivial, uK_scr ho hd⟩
          · exact (no h).elim
        · exact (no h).elim
  case aaload =>
    rcases st with _ | ⟨v, _ | ⟨w, st⟩⟩
    · exact (no h).elim
    · cases v <;> exact (no h).elim
    · cases v <;> first | exact (no h).elim | skip
      all_goals cases w <;> first | exact (no h).elim | skip
      all_goals
        have h := (orE_n (a := stpH m (.aaload, ln, a, b, c) _)).symm.trans h
        show orE (stpH m (.aaload, ln, a, b, c) _) none = _ ∧ _
        rw [orE_n]
        simp only [stpH] at h
        split at h
        · next ti len f hk =>
          split at h
          · next q =>
            split at h
            · next r hr =>
              cases h
              have ho := inr_ne hd hk (by omega)
              simp only [stpH, pM, pK_ne ho, hk, if_pos q, hr]
              exact ⟨rfl, hd⟩
            · exact (no h).elim
          · exact (no h).elim
        · exact (no h).elim
  case new i =>
    have h : stpM m (.new i, ln, a, b, c) (pc, L, st, k, s, fr, n, kd, σ, lo, db) = some x' := h
    show stpM m (.new i, ln, a, b, c) (pc, L, st, k, s, pM K0 xs (fr, n, kd, σ, lo, db)) = _ ∧ _
    simp only [stpM] at h
    split at h
    · next q =>
      cases h
      have ho : n ≠ SCR := by omega
      simp only [stpM, pM, if_pos q, nx, pX, pS_n ho, ← pK_uK ho]
      first | exact ⟨trivial, uK_scr ho hd⟩ | exact ⟨rfl, uK_scr ho hd⟩
    · exact (no h).elim
  case newarray t =>
    rcases st with _ | ⟨v, st⟩
    · exact (no h).elim
    · cases v <;> first | exact (no h).elim | skip
      next v =>
        have h : stpM m (.newarray t, ln, a, b, c) (pc, L, .int v :: st, k, s, fr, n, kd, σ, lo, db) = some x' := h
        show stpM m (.newarray t, ln, a, b, c) (pc, L, .int v :: st, k, s, pM K0 xs (fr, n, kd, σ, lo, db)) = _ ∧ _
        simp only [stpM] at h
        split at h
        · next q =>
          cases h
          have ho : n ≠ SCR := by omega
          simp only [stpM, pM, if_pos q, nx, pX, pS_n ho, ← pK_uK ho]
          first | exact ⟨trivial, uK_scr ho hd⟩ | exact ⟨rfl, uK_scr ho hd⟩
        · exact (no h).elim
  case anewarray t =>
    rcases st with _ | ⟨v, st⟩
    · exact (no h).elim
    · cases v <;> first | exact (no h).elim | skip
      next v =>
        have h : stpM m (.anewarray t, ln, a, b, c) (pc, L, .int v :: st, k, s, fr, n, kd, σ, lo, db) = some x' := h
        show stpM m (.anewarray t, ln, a, b, c) (pc, L, .int v :: st, k, s, pM K0 xs (fr, n, kd, σ, lo, db)) = _ ∧ _
        simp only [stpM] at h
        split at h
        · next q =>
          cases h
          have ho : n ≠ SCR := by omega
          simp only [stpM, pM, if_pos q, nx, pX, ← pK_uK ho]
          exact ⟨trivial, uK_scr ho hd⟩
        · exact (no h).elim
  case invokespecial i =>
    rcases st with _ | ⟨v, st⟩
    · exact (no h).elim
    · cases v <;> first | exact (no h).elim | skip
      next v =>
        have h : stpM m (.invokespecial i, ln, a, b, c) (pc, L, .ref v :: st, k, s, fr, n, kd, σ, lo, db) = some x' := h
        show stpM m (.invokespecial i, ln, a, b, c) (pc, L, .ref v :: st, k, s, pM K0 xs (fr, n, kd, σ, lo, db)) = _ ∧ _
        simp only [stpM] at h
        split at h
        · next q =>
          cases h
          simp only [stpM, pM, if_pos q, nx, pX]
          exact ⟨trivial, hd⟩
        · exact (no h).elim
def pcI : Instr → Bool
  | .invokespecial _ | .return_ => true
  | _ => false
theorem stp_pn {op : Op} (hp : pcI op.1 = true) (h : stp m op (pc, L, st, k, s, fr, n, kd, σ, lo, db) = none) : stp m op (pc, L, st, k, s, pM K0 xs (fr, n, kd, σ, lo, db)) = none := by
  obtain ⟨ins, ln, a, b, c⟩ := op
  cases ins <;> first | (exfalso; revert hp; exact Bool.false_ne_true) | skip
  case return_ => rfl
  case invokespecial i =>
    rcases st with _ | ⟨v, st⟩
    · rfl
    · cases v <;> first | rfl | skip
      next v =>
        have h : stpM m (.invokespecial i, ln, a, b, c) (pc, L, .ref v :: st, k, s, fr, n, kd, σ, lo, db) = none := h
        show stpM m (.invokespecial i, ln, a, b, c) (pc, L, .ref v :: st, k, s, pM K0 xs (fr, n, kd, σ, lo, db)) = none
        simp only [stpM] at h ⊢
        split at h
        · cases h
        · next q => rw [if_neg q]
theorem cal_p {op : Op} (hp : pcI op.1 = true) : cal m op (pc, L, st, k, s, pM K0 xs (fr, n, kd, σ, lo, db)) = cal m op (pc, L, st, k, s, fr, n, kd, σ, lo, db) := by
  obtain ⟨ins, ln, a, b, c⟩ := op
  cases ins <;> first | (exfalso; revert hp; exact Bool.false_ne_true) | rfl
theorem fin_p {op : Op} {o : Ou} {μ' : Me} (hp : pcI op.1 = true) (h : fin m op (pc, L, st, k, s, fr, n, kd, σ, lo, db) = some (o, μ')) (hd : kd SCR = dead) : fin m op (pc, L, st, k, s, pM K0 xs (fr, n, kd, σ, lo, db)) = some (o, pM K0 xs μ') ∧ μ'.2.2.1 SCR = dead := by
  obtain ⟨ins, ln, a, b, c⟩ := op
  cases ins <;> first | (exfalso; revert hp; exact Bool.false_ne_true) | skip
  case invokespecial i => exact absurd (show (none : Option (Ou × Me)) = some (o, μ') from h) (by intro q; cases q)
  case return_ =>
    rcases st with _ | ⟨v, st⟩
    · simp only [fin] at h
      split at h
      · next q => cases h; simp only [fin, pM, if_pos q]; exact ⟨trivial, hd⟩
      · cases h
    · exact absurd (show (none : Option (Ou × Me)) = some (o, μ') from h) (by intro q; cases q)
/-- the evaluator of the constructors: no handlers, nothing handed back -/
def ev1 : Nat → Nat → Sx → Option (Ou × Me)
  | 0, _, _ => none
  | n + 1, m, x => match lk m x.1 with
    | none => none
    | some op => match stp m op x with
      | some x' => if plainI op.1 = true then ev1 n m x' else none
      | none => if pcI op.1 = true then (match cal m op x with
        | some (c, as, st') => match ev1 n c (stx c as x.2.2.2.2.2) with
          | some (.inl none, μ') => ev1 n m (x.1 + 3, x.2.1, st', x.2.2.2.1 + mC c, x.2.2.2.2.1 + mS c, μ')
          | _ => none
        | none => fin m op x) else none
theorem ev1_p : ∀ (n m : Nat) (x : Sx) (o : Ou) (μ' : Me), ev1 n m x = some (o, μ') → kdX x = dead → ev n m (pX K0 xs x) = some (o, pM K0 xs μ') ∧ μ'.2.2.1 SCR = dead := by
  intro n
  induction n with
  | zero => intro m x o μ' h; cases h
  | succ n ih =>
    intro m x o μ' h hd
    obtain ⟨pc, L, st, k, s, fr, N, kd, σ, lo, db⟩ := x
    simp only [ev1] at h
    split at h
    · cases h
    · next op hlk =>
      have hlk' : lk m (pX K0 xs (pc, L, st, k, s, fr, N, kd, σ, lo, db)).1 = some op := hlk
      simp only [ev, hlk']
      split at h
      · next x' hs =>
        split at h
        · next hp =>
          obtain ⟨e1, e2⟩ := stp_p (K0 := K0) (xs := xs) hp hs hd
          have e1' : stp m op (pX K0 xs (pc, L, st, k, s, fr, N, kd, σ, lo, db)) = some (pX K0 xs x') := e1
          rw [e1']
          exact ih m x' o μ' h e2
        · cases h
      · next hs =>
        split at h
        · next hp =>
          have e1 : stp m op (pX K0 xs (pc, L, st, k, s, fr, N, kd, σ, lo, db)) = none := stp_pn hp hs
          have e2 : cal m op (pX K0 xs (pc, L, st, k, s, fr, N, kd, σ, lo, db)) = cal m op (pc, L, st, k, s, fr, N, kd, σ, lo, db) := cal_p hp
          rw [e1, e2]
          split at h
          · next c as st' hc =>
            simp only [hc]
            split at h
            · next μ1 he =>
              obtain ⟨f1, f2⟩ := ih c _ _ _ he hd
              have f1' : ev n c (stx c as (pX K0 xs (pc, L, st, k, s, fr, N, kd, σ, lo, db)).2.2.2.2.2) = some (.inl none, pM K0 xs μ1) := f1
              rw [f1']
              exact ih m _ o μ' h f2
            · cases h
          · next hc =>
            simp only [hc]
            exact fin_p hp h hd
        · cases h
end
