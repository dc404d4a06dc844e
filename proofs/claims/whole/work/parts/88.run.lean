/-! THE LAW'S BEGINNING: the constructors, by computation -/
section
variable {K0 : Kd} {xs : Nat → Int32}
def stq (n m : Nat) (x : Sx) : Option Sx := match lk m x.1 with
  | none => none
  | some op => match stp m op x with
    | some x' => if plainI op.1 = true then some x' else none
    | none => if pcI op.1 = true then (match cal m op x with
      | some (c, as, st') => match evq n c [] (stx c as x.2.2.2.2.2) with
        | some μ' => some (x.1 + 3, x.2.1, st', x.2.2.2.1 + mC c, x.2.2.2.2.1 + mS c, μ')
        | _ => none
      | none => none) else none
def runq (n m stop : Nat) : Nat → Sx → Option Sx
  | 0, _ => none
  | k + 1, x => if x.1 = stop then some x else match stq n m x with
    | some x' => runq n m stop k x'
    | none => none
theorem stq_p {n m : Nat} {x x' : Sx} (h : stq n m x = some x') (hd : kdX x = dead) : step1 n m (pX K0 xs x) = some (pX K0 xs x') ∧ kdX x' = dead := by
  obtain ⟨pc, L, st, k, s, fr, N, kd, σ, lo, db⟩ := x
  simp only [stq] at h
  split at h
  · cases h
  · next op hlk =>
    have hlk' : lk m (pX K0 xs (pc, L, st, k, s, fr, N, kd, σ, lo, db)).1 = some op := hlk
    simp only [step1, hlk']
    split at h
    · next x1 hs =>
      split at h
      · next hp =>
        cases h
        obtain ⟨e1, e2⟩ := stp_p (K0 := K0) (xs := xs) hp hs hd
        have e1' : stp m op (pX K0 xs (pc, L, st, k, s, fr, N, kd, σ, lo, db)) = some (pX K0 xs x') := e1
        rw [e1']
        exact ⟨rfl, e2⟩
      · cases h
    · next hs =>
      split at h
      · next hp =>
        have e1 : stp m op (pX K0 xs (pc, L, st, k, s, fr, N, kd, σ, lo, db)) = none := stp_pn hp hs
        have e2 : cal m op (pX K0 xs (pc, L, st, k, s, fr, N, kd, σ, lo, db)) = cal m op (pc, L, st, k, s, fr, N, kd, σ, lo, db) := cal_p hp
        rw [e1, e2]
        split at h
        · next c as st' hc =>
          simp only [hc]
          split at h
          · next μ1 he =>
            cases h
            obtain ⟨f1, f2⟩ := ev1_p (K0 := K0) (xs := xs) n c _ _ _ (evq_ok n c [] _ _ he (fun z hz => absurd hz List.not_mem_nil)) hd
            have f1' : ev n c (stx c as (pX K0 xs (pc, L, st, k, s, fr, N, kd, σ, lo, db)).2.2.2.2.2) = some (.inl none, pM K0 xs μ1) := f1
            rw [f1']
            exact ⟨rfl, f2⟩
          · cases h
        · cases h
      · cases h
theorem runq_p {n m stop : Nat} : ∀ {k : Nat} {x x' : Sx}, runq n m stop k x = some x' → kdX x = dead → runTo n m stop k (pX K0 xs x) = some (pX K0 xs x')
  | 0, x, x', h, hd => by cases h
  | k + 1, x, x', h, hd => by
    simp only [runq] at h
    have e : (pX K0 xs x).1 = x.1 := rfl
    simp only [runTo, e]
    split at h
    · next q => cases h; rw [if_pos q]
    · next q =>
      rw [if_neg q]
      split at h
      · next x1 hs =>
        obtain ⟨e1, e2⟩ := stq_p (K0 := K0) (xs := xs) hs hd
        rw [e1]
        exact runq_p h e2
      · cases h
end
def μ00 : Me := (true, 0, fun _ => dead, fun _ _ => 0, fun _ _ => 0, fun _ _ => 0)
def run0 : Option Sx := runq 900 214 28 60 (stx 214 [.ref SCR] μ00)
/-- a ditch lies there -/
def isD (a : Nat) : Bool := (decide (1 ≤ a) && decide (a < 94) && ((a - 1) % 31 == 0)) || (decide (96 ≤ a) && decide (a < 344) && ((a - 96) % 31 == 0))
/-- a row of gardens in their order -/
def isOr (a : Nat) : Bool := decide (5 ≤ a) && isD (a - 5)
/-- the ints behind the constructors (of the rows of gardens: the ghosts) -/
def σI (xs : Nat → Int32) : Nat → Nat → Int32 := fun a k => if a = SCR then xs k else if a = 0 ∧ k = 7 then jm1 else if a = 368 ∧ k = 14 then jm1 else if a = 369 ∧ k = 1 then jI 10 else if a = 369 ∧ k = 2 then jI 5
  else if isD a = true ∧ k = 10 then jI 10 else if isD a = true ∧ k = 11 then jI 5 else if isOr a = true ∧ k < 12 then jI (a + 14 + k) else jI 0
def kdE (x y : Kd) : Bool := match x, y with
  | .inl (ci, nf, fx), .inl (ci', nf', fx') => ci == ci' && nf == nf' && (List.range nf).all (fun k => match fx k, fx' k with
    | some (.ref a), some (.ref b) => a == b
    | some (.int a), some (.int b) => a == b
    | some .null, some .null => true
    | none, none => true
    | _, _ => false)
  | .inr (ti, n, none), .inr (ti', n', none) => ti == ti' && n == n'
  | .inr (ti, n, some f), .inr (ti', n', some f') => ti == ti' && n == n' && (List.range n).all (fun k => f k == f' k)
  | _, _ => false
/-- how many ints of it count: of a row of references none (its ghosts say nothing) -/
def szK (x : Kd) : Nat := match x with
  | .inl (_, nf, _) => nf
  | .inr (_, n, none) => n
  | .inr (_, _, some _) => 0
def locK (L : Lc) : Bool := match L with
  | [.ref a, .ref b, .ref c, .ref d, .ref e, .int i, .null, .null, .null] => a == SCR && b == 0 && c == 368 && d == 377 && e == 378 && i == 0
  | _ => false
def chkA (o : Option Sx) : Bool := match o with
  | some (pc, L, st, k, s, fr, n, _) => pc == 28 && locK L && st.isEmpty && fr && (n == 379) && Nat.ble k 600000 && Nat.ble s 7200000
  | none => false
def chkK (p n : Nat) (o : Option Sx) : Bool := match o with
  | some (_, _, _, _, _, _, _, kd, _) => (List.range (p + n)).all (fun a => !(Nat.ble p a) || kdE (kd a) (KX 0 (σI (fun _ => 0)) a))
  | none => false
def chkS (p n : Nat) (o : Option Sx) : Bool := match o with
  | some (_, _, _, _, _, _, _, _, σ, _) => (List.range (p + n)).all (fun a => !(Nat.ble p a) || (List.range (szK (KX 0 (σI (fun _ => 0)) a))).all (fun j => σ a j == σI (fun _ => 0) a j))
  | none => false
set_option maxRecDepth 16384 in
theorem run0_A : chkA run0 = true := by decide +kernel
set_option maxRecDepth 16384 in
theorem run0_K0 : chkK 0 95 run0 = true := by decide +kernel
set_option maxRecDepth 16384 in
theorem run0_K1 : chkK 95 95 run0 = true := by decide +kernel
set_option maxRecDepth 16384 in
theorem run0_K2 : chkK 190 95 run0 = true := by decide +kernel
set_option maxRecDepth 16384 in
theorem run0_K3 : chkK 285 94 run0 = true := by decide +kernel
