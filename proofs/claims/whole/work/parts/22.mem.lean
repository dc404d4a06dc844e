/-! THE MEMORY as it stands behind the constructors: which cell lies where -/
def kD (i : Nat) : Nat := 96 + 31 * i
def gsA (o : Nat) : Nat := o + 1
def nsA (o : Nat) : Nat := o + 2
def cpA (o : Nat) : Nat := o + 3
def acA (o : Nat) : Nat := o + 4
def orA (o : Nat) : Nat := o + 5
def bkA (o : Nat) : Nat := o + 6
def gA (o i : Nat) : Nat := o + 7 + 2 * i
def ohA (o i : Nat) : Nat := o + 8 + 2 * i
def nA (o i : Nat) : Nat := o + 19 + i
def oA (i : Nat) : Nat := 347 + i
def fxL (l : List (Option Nat)) : Nat → Option Value := fun j => (l.getD j none).map Value.ref
def kAG : Kd := .inl (8, 8, fxL [some 1, some 32, some 63, none, some 94, some 344, some 367])
def kDit (o : Nat) : Kd := .inl (1, 13, fxL [some (gsA o), some (nsA o), some (cpA o), some (acA o), some (orA o), some (bkA o)])
def kBks : Kd := .inl (0, 8, fxL [])
def kGat (o i : Nat) : Kd := .inl (3, 5, fxL [some (ohA o i)])
/-- a garden: its number never changes -/
def kGar (i : Nat) : Kd := .inl (2, 10, fun j => if j = 9 then some (.int (jI i)) else none)
def kGs (o : Nat) : Kd := .inr (4, 6, some (fun j => if j < 6 then some (gA o j) else none))
def kNs (o : Nat) : Kd := .inr (5, 12, some (fun j => if j < 12 then some (nA o j) else none))
def kI (n : Nat) : Kd := .inr (0, n, none)
/-- the mark of the row of gardens in their order: what it holds, the ghosts say -/
def kOr : Kd := .inr (5, 12, none)
def kHis : Kd := .inl (4, 3, fxL [some 95])
def kKep : Kd := .inr (6, 8, some (fun j => if j < 8 then some (kD j) else none))
def kTxt : Kd := .inl (7, 5, fxL [some 345, some 346])
def kOrs : Kd := .inr (7, 20, some (fun j => if j < 20 then some (oA j) else none))
def kOrd : Kd := .inl (5, 4, fxL [])
def kRef : Kd := .inl (6, 2, fxL [])
def kMod : Kd := .inl (9, 20, fxL [some 369, some 370, some 371, some 372, some 373, none, none, none, none, none, none, none, some 374, none, none, some 375, none, none, some 376])
/-- a cell of a ditch at o, by its place in it -/
def kIn (o r : Nat) : Kd :=
  if r = 0 then kDit o else if r = 1 then kGs o else if r = 2 then kNs o else if r = 3 then kI 8 else if r = 4 then kI 8 else if r = 5 then kOr else if r = 6 then kBks
  else if r < 19 then (if r % 2 = 1 then kGat o ((r - 7) / 2) else kI 7) else kGar (r - 19)
def KD (L : Nat) : Nat → Kd := fun a =>
  if a = 0 then kAG else if a < 94 then kIn (1 + 31 * ((a - 1) / 31)) ((a - 1) % 31)
  else if a = 94 then kHis else if a = 95 then kKep else if a < 344 then kIn (96 + 31 * ((a - 96) / 31)) ((a - 96) % 31)
  else if a = 344 then kTxt else if a = 345 then .inr (1, 60, none) else if a = 346 then kOrs else if a < 367 then kOrd else if a = 367 then kRef
  else if a = 368 then kMod else if a = 369 then kI 199 else if a = 370 then kI 1592 else if a = 371 then kI 199 else if a = 372 then kI 199 else if a = 373 then kI 199 else if a = 374 then kI 60
  else if a = 375 then kI 12 else if a = 376 then kI 132 else if a = 377 then .inr (2, 1, none) else if a = 378 then .inr (3, 1, none) else if a = SCR then .inr (8, L, none) else dead
/-- the mark becomes the row -/
def fixK (x : Kd) (f : Nat → Int32) : Kd := match x with
  | .inl q => .inl q
  | .inr (ti, n, some g) => .inr (ti, n, some g)
  | .inr (ti, n, none) => if ti = 5 then .inr (5, n, some (fun j => if j < n then some (f j).toNatClampNeg else none)) else .inr (ti, n, none)
def KX (Ln : Nat) (σ : Nat → Nat → Int32) : Nat → Kd := fun a => fixK (KD Ln a) (σ a)
def MM (Ln : Nat) (σ : Nat → Nat → Int32) (lo : Nat → Nat → Int64) (db : Nat → Nat → UInt64) : Me := (false, 379, KX Ln σ, σ, lo, db)
/-- where a ditch lies -/
def DI (o : Nat) : Prop := o = 1 ∨ o = 32 ∨ o = 63 ∨ ∃ i, i < 8 ∧ o = kD i
theorem KD_in {Ln o r : Nat} (h : DI o) (hr : r < 31) : KD Ln (o + r) = kIn o r := by
  unfold KD
  rcases h with rfl | rfl | rfl | ⟨i, hi, rfl⟩
  · rw [if_neg (by omega), if_pos (by omega), show (1 + r - 1) / 31 = 0 by omega, show (1 + r - 1) % 31 = r by omega]
  · rw [if_neg (by omega), if_pos (by omega), show (32 + r - 1) / 31 = 1 by omega, show (32 + r - 1) % 31 = r by omega]
  · rw [if_neg (by omega), if_pos (by omega), show (63 + r - 1) / 31 = 2 by omega, show (63 + r - 1) % 31 = r by omega]
  · unfold kD
    rw [if_neg (by omega), if_neg (by omega), if_neg (by omega), if_neg (by omega), if_pos (by omega), show (96 + 31 * i + r - 96) / 31 = i by omega, show (96 + 31 * i + r - 96) % 31 = r by omega]
section
variable {Ln o i : Nat}
theorem KD_D (h : DI o) : KD Ln o = kDit o := KD_in (r := 0) h (by decide)
theorem KD_gs (h : DI o) : KD Ln (gsA o) = kGs o := KD_in (r := 1) h (by decide)
theorem KD_ns (h : DI o) : KD Ln (nsA o) = kNs o := KD_in (r := 2) h (by decide)
theorem KD_cp (h : DI o) : KD Ln (cpA o) = kI 8 := KD_in (r := 3) h (by decide)
theorem KD_ac (h : DI o) : KD Ln (acA o) = kI 8 := KD_in (r := 4) h (by decide)
theorem KD_or (h : DI o) : KD Ln (orA o) = kOr := KD_in (r := 5) h (by decide)
theorem KD_bk (h : DI o) : KD Ln (bkA o) = kBks := KD_in (r := 6) h (by decide)
theorem KD_g (h : DI o) (hi : i < 6) : KD Ln (gA o i) = kGat o i := by
  have := KD_in (Ln := Ln) (r := 7 + 2 * i) h (by omega)
  rw [← Nat.add_assoc] at this
  rw [gA, this]
  unfold kIn
  rw [if_neg (by omega), if_neg (by omega), if_neg (by omega), if_neg (by omega), if_neg (by omega), if_neg (by omega), if_neg (by omega), if_pos (by omega), if_pos (by omega), show (7 + 2 * i - 7) / 2 = i by omega]
theorem KD_oh (h : DI o) (hi : i < 6) : KD Ln (ohA o i) = kI 7 := by
  have := KD_in (Ln := Ln) (r := 8 + 2 * i) h (by omega)
  rw [← Nat.add_assoc] at this
  rw [ohA, this]
  unfold kIn
  rw [if_neg (by omega), if_neg (by omega), if_neg (by omega), if_neg (by omega), if_neg (by omega), if_neg (by omega), if_neg (by omega), if_pos (by omega), if_neg (by omega)]
theorem KD_n (h : DI o) (hi : i < 12) : KD Ln (nA o i) = kGar i := by
  have := KD_in (Ln := Ln) (r := 19 + i) h (by omega)
  rw [← Nat.add_assoc] at this
  rw [nA, this]
  unfold kIn
  rw [if_neg (by omega), if_neg (by omega), if_neg (by omega), if_neg (by omega), if_neg (by omega), if_neg (by omega), if_neg (by omega), if_neg (by omega), Nat.add_sub_cancel_left]
theorem KD_o (hi : i < 20) : KD Ln (oA i) = kOrd := by
  unfold KD oA
  rw [if_neg (by omega), if_neg (by omega), if_neg (by omega), if_neg (by omega), if_neg (by omega), if_neg (by omega), if_neg (by omega), if_neg (by omega), if_pos (by omega)]
theorem KD_AG : KD Ln 0 = kAG := rfl
theorem KD_HI : KD Ln 94 = kHis := rfl
theorem KD_HK : KD Ln 95 = kKep := rfl
theorem KD_TX : KD Ln 344 = kTxt := rfl
theorem KD_SG : KD Ln 345 = .inr (1, 60, none) := rfl
theorem KD_OR : KD Ln 346 = kOrs := rfl
theorem KD_RF : KD Ln 367 = kRef := rfl
theorem KD_MO : KD Ln 368 = kMod := rfl
theorem KD_M0 : KD Ln 369 = kI 199 := rfl
theorem KD_M1 : KD Ln 370 = kI 1592 := rfl
theorem KD_M2 : KD Ln 371 = kI 199 := rfl
theorem KD_M3 : KD Ln 372 = kI 199 := rfl
theorem KD_M4 : KD Ln 373 = kI 199 := rfl
theorem KD_M12 : KD Ln 374 = kI 60 := rfl
theorem KD_M15 : KD Ln 375 = kI 12 := rfl
theorem KD_M18 : KD Ln 376 = kI 132 := rfl
theorem KD_OUT : KD Ln 377 = .inr (2, 1, none) := rfl
theorem KD_OUD : KD Ln 378 = .inr (3, 1, none) := rfl
theorem KD_SCR : KD Ln SCR = .inr (8, Ln, none) := rfl
theorem DI_1 : DI 1 := Or.inl rfl
theorem DI_32 : DI 32 := Or.inr (Or.inl rfl)
theorem DI_63 : DI 63 := Or.inr (Or.inr (Or.inl rfl))
theorem DI_k (hi : i < 8) : DI (kD i) := Or.inr (Or.inr (Or.inr ⟨i, hi, rfl⟩))
end
/-- minus one, and what a truth is as an int -/
def jm1 : Int32 := -1
def bI (p : Prop) [Decidable p] : Int32 := if p then jI 1 else jI 0
def bZ (v : Int32) : Prop := v = 0 ∨ v = 1
theorem bZ_0 : bZ (jI 0) = True := eq_true (Or.inl rfl)
theorem bZ_1 : bZ (jI 1) = True := eq_true (Or.inr rfl)
theorem bZ_b (p : Prop) [Decidable p] : bZ (bI p) = True := by unfold bI; split <;> simp [bZ_0, bZ_1]
theorem jI_m1 {n : Nat} (h : 1 ≤ n) : jI n + jm1 = jI (n - 1) := by
  have : jI n = jI (n - 1) + jI 1 := by rw [jI_add, Nat.sub_add_cancel h]
  rw [this, Int32.add_assoc, show jI 1 + jm1 = 0 from rfl, Int32.add_zero]
theorem jI_ne1 {n : Nat} (h : n < 2147483648) : ¬ jI n = jm1 := by
  intro e
  have := congrArg Int32.toInt e
  rw [jI_toInt h, show jm1.toInt = -1 from rfl] at this
  omega
/-! the memory's own steps -/
theorem jI_nA {o i : Nat} (h : DI o) (hi : i < 12) : (jI (nA o i)).toNatClampNeg = nA o i := by
  refine jI_tnc ?_
  unfold nA
  rcases h with rfl | rfl | rfl | ⟨q, hq, rfl⟩
  · omega
  · omega
  · omega
  · unfold kD; omega
section
variable {m pc ln a b c k s ob nf len ti : Nat} {L : Lc} {st : List Value} {K : Ou → Me → Prop} {Ln : Nat} {σ : Nat → Nat → Int32} {lo : Nat → Nat → Int64} {db : Nat → Nat → UInt64} {fx : Nat → Option Value}
theorem KX_inl {q : Nat × Nat × (Nat → Option Value)} (h : KD Ln ob = .inl q) : KX Ln σ ob = .inl q := by unfold KX; rw [h]; rfl
theorem KX_num (h : KD Ln ob = .inr (ti, len, none)) (ht : ti ≠ 5) : KX Ln σ ob = .inr (ti, len, none) := by unfold KX; rw [h]; exact if_neg ht
theorem KX_some {f : Nat → Option Nat} (h : KD Ln ob = .inr (ti, len, some f)) : KX Ln σ ob = .inr (ti, len, some f) := by unfold KX; rw [h]; rfl
theorem KX_or (h : KD Ln ob = kOr) : KX Ln σ ob = .inr (5, 12, some (fun j => if j < 12 then some (σ ob j).toNatClampNeg else none)) := by unfold KX; rw [h]; rfl
theorem KX_u {q : Nat} {v : Int32} (h : ∀ f, fixK (KD Ln ob) f = KD Ln ob) : KX Ln (u2 σ ob q v) = KX Ln σ := by
  funext z
  unfold KX
  by_cases e : z = ob
  · rw [e, h, h]
  · rw [u2_ne e]
theorem KX_uo {q : Nat} {v : Int32} {p : Nat × Nat × (Nat → Option Value)} (h : KD Ln ob = .inl p) : KX Ln (u2 σ ob q v) = KX Ln σ := KX_u (fun f => by rw [h]; rfl)
theorem KX_un {q : Nat} {v : Int32} (h : KD Ln ob = .inr (ti, len, none)) (ht : ti ≠ 5) : KX Ln (u2 σ ob q v) = KX Ln σ := KX_u (fun f => by rw [h]; exact if_neg ht)
theorem KX_ur {q r : Nat} (h : KD Ln ob = kOr) (hq : q < 12) (hr : (jI r).toNatClampNeg = r) : uK (KX Ln σ) ob (.inr (5, 12, some (fun j => if j = q then some r else if j < 12 then some (σ ob j).toNatClampNeg else none))) = KX Ln (u2 σ ob q (jI r)) := by
  funext z
  by_cases e : z = ob
  · subst e
    rw [uK_eq, KX_or h]
    refine congrArg (fun f => Sum.inr (5, 12, some f)) (funext fun j => ?_)
    by_cases ej : j = q
    · subst ej
      rw [if_pos rfl, if_pos hq, show u2 σ z j (jI r) z j = jI r from if_pos ⟨rfl, rfl⟩, hr]
    · rw [if_neg ej, show u2 σ z q (jI r) z j = σ z j from if_neg (fun e => ej e.2)]
  · rw [uK_ne e]
    unfold KX
    rw [u2_ne e]
theorem M_getI {i : Nat} (hl : lk m pc = some (.getfield i, ln, a, b, c)) (hk : KD Ln ob = .inl (a, nf, fx)) (hb : b < nf) (hf : fx b = none) : Ev m (pc, L, .ref ob :: st, k, s, MM Ln σ lo db) K ↔ Ev m (pc + 3, L, .int (σ ob b) :: st, k, s, MM Ln σ lo db) K := e_getI hl (KX_inl hk) hb hf
theorem M_getA {i r : Nat} (hl : lk m pc = some (.getfield i, ln, a, b, c)) (hk : KD Ln ob = .inl (a, nf, fx)) (hb : b < nf) (hf : fx b = some (.ref r)) : Ev m (pc, L, .ref ob :: st, k, s, MM Ln σ lo db) K ↔ Ev m (pc + 3, L, .ref r :: st, k, s, MM Ln σ lo db) K := e_getA hl (KX_inl hk) hb hf
theorem M_getC {i : Nat} {v : Int32} (hl : lk m pc = some (.getfield i, ln, a, b, c)) (hk : KD Ln ob = .inl (a, nf, fx)) (hb : b < nf) (hf : fx b = some (.int v)) : Ev m (pc, L, .ref ob :: st, k, s, MM Ln σ lo db) K ↔ Ev m (pc + 3, L, .int v :: st, k, s, MM Ln σ lo db) K := e_getC hl (KX_inl hk) hb hf
theorem M_putI {i : Nat} {v : Int32} (hl : lk m pc = some (.putfield i, ln, a, b, c)) (hk : KD Ln ob = .inl (a, nf, fx)) (hb : b < nf) (hf : fx b = none) (h0 : c = 0) : Ev m (pc, L, .int v :: .ref ob :: st, k, s, MM Ln σ lo db) K ↔ Ev m (pc + 3, L, st, k, s, MM Ln (u2 σ ob b v) lo db) K := by
  rw [MM, MM, KX_uo hk]
  exact e_putI hl (KX_inl hk) hb hf h0
theorem M_putZ {i : Nat} {v : Int32} (hl : lk m pc = some (.putfield i, ln, a, b, c)) (hk : KD Ln ob = .inl (a, nf, fx)) (hb : b < nf) (hf : fx b = none) (h0 : c = 1) : Ev m (pc, L, .int v :: .ref ob :: st, k, s, MM Ln σ lo db) K ↔ (v = 0 ∨ v = 1) ∧ Ev m (pc + 3, L, st, k, s, MM Ln (u2 σ ob b v) lo db) K := by
  rw [MM, MM, KX_uo hk]
  exact e_putZ hl (KX_inl hk) hb hf h0
theorem M_iaload {v : Int32} (hl : lk m pc = some (.iaload, ln, a, b, c)) (hk : KD Ln ob = .inr (ti, len, none)) (ht : ti = 0 ∨ (ti = 8 ∧ ob = SCR)) : Ev m (pc, L, .int v :: .ref ob :: st, k, s, MM Ln σ lo db) K ↔ ixIn v len ∧ Ev m (pc + 1, L, .int (σ ob v.toNatClampNeg) :: st, k, s, MM Ln σ lo db) K := e_iaload hl (KX_num hk (by omega)) ht
theorem M_caload {v : Int32} (hl : lk m pc = some (.caload, ln, a, b, c)) (hk : KD Ln ob = .inr (1, len, none)) : Ev m (pc, L, .int v :: .ref ob :: st, k, s, MM Ln σ lo db) K ↔ ixIn v len ∧ Ev m (pc + 1, L, .int (σ ob v.toNatClampNeg) :: st, k, s, MM Ln σ lo db) K := e_caload hl (KX_num hk (by decide))
theorem M_laload {v : Int32} (hl : lk m pc = some (.laload, ln, a, b, c)) (hk : KD Ln ob = .inr (2, len, none)) : Ev m (pc, L, .int v :: .ref ob :: st, k, s, MM Ln σ lo db) K ↔ ixIn v len ∧ Ev m (pc + 1, L, .long (lo ob v.toNatClampNeg) :: st, k, s, MM Ln σ lo db) K := e_laload hl (KX_num hk (by decide))
theorem M_daload {v : Int32} (hl : lk m pc = some (.daload, ln, a, b, c)) (hk : KD Ln ob = .inr (3, len, none)) : Ev m (pc, L, .int v :: .ref ob :: st, k, s, MM Ln σ lo db) K ↔ ixIn v len ∧ Ev m (pc + 1, L, .double (db ob v.toNatClampNeg) :: st, k, s, MM Ln σ lo db) K := e_daload hl (KX_num hk (by decide))
theorem M_iastore {v w : Int32} (hl : lk m pc = some (.iastore, ln, a, b, c)) (hk : KD Ln ob = .inr (0, len, none)) : Ev m (pc, L, .int w :: .int v :: .ref ob :: st, k, s, MM Ln σ lo db) K ↔ ixIn v len ∧ Ev m (pc + 1, L, st, k, s, MM Ln (u2 σ ob v.toNatClampNeg w) lo db) K := by
  rw [MM, MM, KX_un hk (by decide)]
  exact e_iastore hl (KX_num hk (by decide))
theorem M_castore {v w : Int32} (hl : lk m pc = some (.castore, ln, a, b, c)) (hk : KD Ln ob = .inr (1, len, none)) : Ev m (pc, L, .int w :: .int v :: .ref ob :: st, k, s, MM Ln σ lo db) K ↔ ixIn v len ∧ Ev m (pc + 1, L, st, k, s, MM Ln (u2 σ ob v.toNatClampNeg (vp_nar .char w)) lo db) K := by
  rw [MM, MM, KX_un hk (by decide)]
  exact e_castore hl (KX_num hk (by decide))
theorem M_lastore {v : Int32} {w : Int64} (hl : lk m pc = some (.lastore, ln, a, b, c)) (hk : KD Ln ob = .inr (2, len, none)) : Ev m (pc, L, .long w :: .int v :: .ref ob :: st, k, s, MM Ln σ lo db) K ↔ ixIn v len ∧ Ev m (pc + 1, L, st, k, s, MM Ln σ (u2 lo ob v.toNatClampNeg w) db) K := e_lastore hl (KX_num hk (by decide))
theorem M_dastore {v : Int32} {w : UInt64} (hl : lk m pc = some (.dastore, ln, a, b, c)) (hk : KD Ln ob = .inr (3, len, none)) : Ev m (pc, L, .double w :: .int v :: .ref ob :: st, k, s, MM Ln σ lo db) K ↔ ixIn v len ∧ Ev m (pc + 1, L, st, k, s, MM Ln σ lo (u2 db ob v.toNatClampNeg w)) K := e_dastore hl (KX_num hk (by decide))
theorem M_arraylength (hl : lk m pc = some (.arraylength, ln, a, b, c)) (hk : KD Ln ob = .inr (ti, len, none)) (ht : ti < 4 ∨ (ti = 8 ∧ ob = SCR)) : Ev m (pc, L, .ref ob :: st, k, s, MM Ln σ lo db) K ↔ Ev m (pc + 1, L, .int (jI len) :: st, k, s, MM Ln σ lo db) K := e_arraylength hl (KX_num hk (by omega)) ht
theorem M_aaload {r : Nat} {v : Int32} {f : Nat → Option Nat} (hl : lk m pc = some (.aaload, ln, a, b, c)) (hk : KD Ln ob = .inr (ti, len, some f)) (ht : 4 ≤ ti ∧ ti < 8) (hv : ixIn v len) (hf : f v.toNatClampNeg = some r) : Ev m (pc, L, .int v :: .ref ob :: st, k, s, MM Ln σ lo db) K ↔ Ev m (pc + 1, L, .ref r :: st, k, s, MM Ln σ lo db) K := e_aaload hl (KX_some hk) ht hv hf
/-- the row of gardens in their order: read and written -/
theorem M_orload {w : Nat} (hl : lk m pc = some (.aaload, ln, a, b, c)) (hk : KD Ln ob = kOr) (hw : w < 12) : Ev m (pc, L, .int (jI w) :: .ref ob :: st, k, s, MM Ln σ lo db) K ↔ Ev m (pc + 1, L, .ref (σ ob w).toNatClampNeg :: st, k, s, MM Ln σ lo db) K :=
  e_aaload hl (KX_or hk) (by decide) (jI_ix' (by omega) hw) (by rw [jI_tnc (by omega), if_pos hw])
theorem M_orstore {w r i : Nat} (hl : lk m pc = some (.aastore, ln, a, b, c)) (hk : KD Ln ob = kOr) (hr : KD Ln r = kGar i) (hrr : (jI r).toNatClampNeg = r) (hw : w < 12) : Ev m (pc, L, .ref r :: .int (jI w) :: .ref ob :: st, k, s, MM Ln σ lo db) K ↔ Ev m (pc + 1, L, st, k, s, MM Ln (u2 σ ob w (jI r)) lo db) K := by
  rw [MM, MM, ← KX_ur hk hw hrr]
  have := e_aastore (L := L) (st := st) (k := k) (s := s) (K := K) (n := 379) (σ := σ) (lo := lo) (db := db) hl (KX_or (σ := σ) hk) (KX_inl (σ := σ) hr) (by decide) (by decide) (jI_ix' (by omega) hw)
  rw [jI_tnc (by omega)] at this
  exact this
end
/-! what a call wants -/
theorem calG_of {m c k s n : Nat} {st : List Value} {st' : List Value} {q : Nat} (hq : mL c = q) (hn : n ≤ mL c ∧ mF c + 1 ≤ mF m ∧ 8 + (mL c + 11) + mW c ≤ mW m ∧ isScr c = false) (hk : k + mC c ≤ mC m ∧ s + mS c ≤ mS m) (h1 : n ≤ st.length) (h2 : st.all (fun v => v.category == 1) = true) (h3 : (st.drop n).length ≤ 8) (h5 : st.drop n = st') :
    calG m c k s n st = some (c, (st.take n).reverse, st') := by
  unfold calG
  rw [if_pos, h5]
  exact ⟨h1, hn.1, fun v hv => by simpa using List.all_eq_true.mp h2 v hv, h3, hn.2.1, hn.2.2.1, hk.1, hk.2, hn.2.2.2⟩
section
variable {m pc ln a b c k s n q : Nat} {L : Lc} {st st' : List Value} {K : Ou → Me → Prop} {fr : Bool} {kd : Nat → Kd} {σ : Nat → Nat → Int32} {lo : Nat → Nat → Int64} {db : Nat → Nat → UInt64} {L0 : Lc}
theorem c_static {i : Nat} (hl : lk m pc = some (.invokestatic i, ln, a, b, c)) (hq : mL b = q) (hn : c ≤ mL b ∧ mF b + 1 ≤ mF m ∧ 8 + (mL b + 11) + mW b ≤ mW m ∧ isScr b = false) (hk : k + mC b ≤ mC m ∧ s + mS b ≤ mS m) (h1 : c ≤ st.length) (h2 : st.all (fun v => v.category == 1) = true) (h3 : (st.drop c).length ≤ 8) (h5 : st.drop c = st')
    (h0 : (st.take c).reverse ++ List.replicate (q - c) .null = L0) : Ev m (pc, L, st, k, s, fr, n, kd, σ, lo, db) K ↔ Ev b (0, L0, [], 0, 0, fr, n, kd, σ, lo, db) (BK m pc L st' k s b K) := by
  refine e_static hl (calG_of hq hn hk h1 h2 h3 h5) ?_
  rw [← h0, hq]
  have : (st.take c).reverse.length = c := by simp; omega
  rw [this]
theorem c_virtual {i o nf : Nat} {fx : Nat → Option Value} (hl : lk m pc = some (.invokevirtual i, ln, a, b, c)) (ho : st[c]? = some (.ref o)) (hkd : kd o = .inl (mO b, nf, fx)) (h10 : mO b < 10) (hq : mL b = q) (hn : c + 1 ≤ mL b ∧ mF b + 1 ≤ mF m ∧ 8 + (mL b + 11) + mW b ≤ mW m ∧ isScr b = false) (hk : k + mC b ≤ mC m ∧ s + mS b ≤ mS m) (h1 : c + 1 ≤ st.length) (h2 : st.all (fun v => v.category == 1) = true) (h3 : (st.drop (c + 1)).length ≤ 8) (h5 : st.drop (c + 1) = st')
    (h0 : (st.take (c + 1)).reverse ++ List.replicate (q - (c + 1)) .null = L0) : Ev m (pc, L, st, k, s, fr, n, kd, σ, lo, db) K ↔ Ev b (0, L0, [], 0, 0, fr, n, kd, σ, lo, db) (BK m pc L st' k s b K) := by
  refine e_virtual hl ho hkd h10 (calG_of hq hn hk h1 h2 h3 h5) ?_
  rw [← h0, hq]
  have : (st.take (c + 1)).reverse.length = c + 1 := by simp; omega
  rw [this]
theorem r_ret {v : Value} {μ : Me} {k' s' : Nat} (hk : k + mC c = k') (hs : s + mS c = s') : BK m pc L st k s c K (.inl (some v)) μ ↔ Ev m (pc + 3, L, v :: st, k', s', μ) K := by
  rw [BK_ret, hk, hs]
theorem r_void {μ : Me} {k' s' : Nat} (hk : k + mC c = k') (hs : s + mS c = s') : BK m pc L st k s c K (.inl none) μ ↔ Ev m (pc + 3, L, st, k', s', μ) K := by
  rw [BK_void, hk, hs]
theorem r_thr {E hp : Nat} {i : Fin 4} {r : _} {μ : Me} {L' : Lc} {k' s' : Nat} (h1 : hnd (mH m) pc E = some hp) (h2 : lk m hp = some (.astore_n i, r)) (h3 : (i : Nat) < mL m ∧ isScr m = false) (h4 : L.set i .null = L') (hk : k + mC c = k') (hs : s + mS c = s') :
    BK m pc L st k s c K (.inr E) μ ↔ Ev m (hp + 1, L', [], k', s', μ) K := by
  refine BK_thr ?_
  simp only [bak, h1, h2]
  rw [if_pos h3, h4, hk, hs]
  rfl
theorem r_thr' {E hp : Nat} {i : Nat} {r : _} {μ : Me} {L' : Lc} {k' s' : Nat} (h1 : hnd (mH m) pc E = some hp) (h2 : lk m hp = some (.astore i, r)) (h3 : i < mL m ∧ isScr m = false) (h4 : L.set i .null = L') (hk : k + mC c = k') (hs : s + mS c = s') :
    BK m pc L st k s c K (.inr E) μ ↔ Ev m (hp + 2, L', [], k', s', μ) K := by
  refine BK_thr ?_
  simp only [bak, h1, h2]
  rw [if_pos h3, h4, hk, hs]
  rfl
end
theorem jI_ixT {a n : Nat} (ha : a < 2147483648) (hn : a < n) : ixIn (jI a) n = True := eq_true (jI_ix' ha hn)
