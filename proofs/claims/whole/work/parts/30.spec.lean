/-! WHAT HAPPENS: the numbers of a ditch in one row, as the reference lays them, and what each method makes of them -/
abbrev Gr : Type := Nat → Int32
def gu (g : Gr) (k : Nat) (v : Int32) : Gr := fun j => if j = k then v else g j
def itN {α : Type} (n : Nat) (f : Nat → α → α) (a : α) : α := match n with
  | 0 => a
  | n + 1 => f n (itN n f a)
theorem itN_succ {α : Type} (n : Nat) (f : Nat → α → α) (a : α) : itN (n + 1) f a = f n (itN n f a) := rfl
/-- the row of the reference in the memory -/
def MG (σ : Nat → Nat → Int32) (g : Gr) : Nat → Nat → Int32 := fun a k => if a = 369 then g k else σ a k
theorem MG_self (σ : Nat → Nat → Int32) : MG σ (σ 369) = σ := by
  funext a k
  unfold MG
  split
  · next h => rw [h]
  · rfl
theorem MG_g {σ : Nat → Nat → Int32} {g : Gr} {k : Nat} : MG σ g 369 k = g k := rfl
theorem MG_gf {σ : Nat → Nat → Int32} {g : Gr} : MG σ g 369 = g := rfl
theorem MG_o {σ : Nat → Nat → Int32} {g : Gr} {a k : Nat} (h : a ≠ 369) : MG σ g a k = σ a k := if_neg h
theorem MG_of {σ : Nat → Nat → Int32} {g : Gr} {a : Nat} (h : a ≠ 369) : MG σ g a = σ a := by
  funext k; exact if_neg h
theorem MG_u {σ : Nat → Nat → Int32} {g : Gr} {k : Nat} {v : Int32} : u2 (MG σ g) 369 k v = MG σ (gu g k v) := by
  funext a j
  unfold u2 MG gu
  by_cases ha : a = 369 <;> by_cases hj : j = k <;> simp [ha, hj]
theorem MG_uo {σ : Nat → Nat → Int32} {g : Gr} {a k : Nat} {v : Int32} (h : a ≠ 369) : u2 (MG σ g) a k v = MG (u2 σ a k v) g := by
  funext b j
  unfold u2 MG
  by_cases hb : b = 369
  · have : ¬ (b = a ∧ j = k) := fun e => h (e.1.symm.trans hb)
    rw [if_pos hb, if_neg this, if_pos hb]
  · rw [if_neg hb, if_neg hb]
theorem u2_at {σ : Nat → Nat → Int32} {a k : Nat} {v : Int32} : u2 σ a k v a k = v := if_pos ⟨rfl, rfl⟩
theorem u2_na {σ : Nat → Nat → Int32} {a b k j : Nat} {v : Int32} (h : b ≠ a) : u2 σ a k v b j = σ b j := if_neg (fun e => h e.1)
theorem u2_nk {σ : Nat → Nat → Int32} {a b k j : Nat} {v : Int32} (h : j ≠ k) : u2 σ a k v b j = σ b j := if_neg (fun e => h e.2)
theorem gu_at {g : Gr} {k : Nat} {v : Int32} : gu g k v k = v := if_pos rfl
theorem gu_ne {g : Gr} {k j : Nat} {v : Int32} (h : j ≠ k) : gu g k v j = g j := if_neg h
def mn (a b : Int32) : Int32 := if a < b then a else b
theorem mn_comm (a b : Int32) : mn a b = mn b a := by
  unfold mn
  by_cases h1 : a < b <;> by_cases h2 : b < a
  · rw [Int32.lt_iff_toInt_lt] at h1 h2; omega
  · rw [if_pos h1, if_neg h2]
  · rw [if_neg h1, if_pos h2]
  · rw [if_neg h1, if_neg h2]
    rw [Int32.lt_iff_toInt_lt] at h1 h2
    exact Int32.toInt_inj.mp (by omega)
/-- the numbers: hour 0, inflow 1, fine 2, how many gates 3, gardens 4, complaints 5, chest 6, the books 7 to 14 -/
abbrev ahd (g : Gr) (a b : Nat) : Prop := g (75 + 9 * b + 4) < g (75 + 9 * a + 4) ∨ (g (75 + 9 * a + 4) = g (75 + 9 * b + 4) ∧ (g (75 + 9 * b + 2) < g (75 + 9 * a + 2) ∨ (g (75 + 9 * a + 2) = g (75 + 9 * b + 2) ∧ a < b)))
def insL (g : Gr) (k : Nat) (r : Nat → Nat) : Nat → (Nat → Nat) × Nat
  | 0 => (r, 0)
  | p + 1 => if ahd g k (r p) then insL g k (fun j => if j = p + 1 then r p else r j) p else (r, p + 1)
def insR (g : Gr) (k : Nat) (rc : (Nat → Nat) × Nat) : (Nat → Nat) × Nat :=
  ((fun j => if j = (insL g k rc.1 rc.2).2 then k else (insL g k rc.1 rc.2).1 j), rc.2 + 1)
def ordS (g : Gr) (gt : Int32) (n : Nat) : (Nat → Nat) × Nat := itN n (fun i rc => if g (75 + 9 * i) = gt then insR g i rc else rc) ((fun _ => 0), 0)
def drS (g : Gr) (i : Nat) (w : Int32) : Int32 := mn w (mn (jI 3 * g (75 + 9 * i + 1)) (g (75 + 9 * i + 4)))
def watStep (r : Nat → Nat) (i : Nat) (z : Gr × Int32) : Gr × Int32 :=
  let n := drS z.1 (r i) z.2
  let g1 := gu z.1 (75 + 9 * r i + 4) (z.1 (75 + 9 * r i + 4) - n)
  let g2 := gu g1 (75 + 9 * r i + 6) (g1 (75 + 9 * r i + 6) + n)
  (gu g2 9 (g2 9 + n), z.2 - n)
def watS (g : Gr) (gt : Nat) (w : Int32) (nd : Nat) : Gr × Int32 :=
  let z := itN (ordS g (jI gt) nd).2 (watStep (ordS g (jI gt) nd).1) (g, w)
  (gu z.1 (15 + 10 * gt + 3) (z.1 (15 + 10 * gt + 3) + z.2), z.2)
def up100 (a : Int32) : Int32 := (a + jI 100 - jI 1) / jI 100
def dwnStep (oh : Nat → Nat → Bool) (hw nd : Nat) (i : Nat) (z : Gr × Int32) : Gr × Int32 :=
  let lk := (z.2 * z.1 (15 + 10 * i + 1) + jI 100 - jI 1) / jI 100
  let g1 := gu z.1 8 (z.1 8 + lk)
  let l1 := z.2 - lk
  if oh i hw = true then
    let tk := mn (g1 (15 + 10 * i)) l1
    let g2 := gu g1 (15 + 10 * i + 2) (g1 (15 + 10 * i + 2) + tk)
    let w := watS g2 i tk nd
    (w.1, l1 + (w.2 - tk))
  else (g1, l1)
def thvStep (h : Int32) (i : Nat) (z : Gr × Int32) : Gr × Int32 :=
  if z.1 (75 + 9 * i + 5) = jI 0 then z else
    let n := drS z.1 i z.2
    let g1 := gu z.1 (75 + 9 * i + 4) (z.1 (75 + 9 * i + 4) - n)
    let g2 := if jI 0 < n then gu g1 (75 + 9 * i + 8) h else g1
    let g3 := gu g2 (75 + 9 * i + 7) (g2 (75 + 9 * i + 7) + n)
    (gu g3 10 (g3 10 + n), z.2 - n)
def hrS (g : Gr) (a b : Nat) : Gr :=
  let g0 := gu g 12 (g 12 + jI 1)
  if jI 0 ≤ g0 (75 + 9 * b + 8) ∧ g0 0 - jI 168 ≤ g0 (75 + 9 * b + 8) then
    let p := mn (g0 2) (g0 (75 + 9 * b + 3))
    let g1 := gu g0 (75 + 9 * b + 3) (g0 (75 + 9 * b + 3) - p)
    let g2 := gu g1 (75 + 9 * a + 3) (g1 (75 + 9 * a + 3) + p / jI 2)
    let g3 := gu g2 6 (g2 6 + (p - p / jI 2))
    let g4 := gu g3 (75 + 9 * b + 5) (jI 0)
    gu g4 13 (g4 13 + jI 1)
  else if jI 0 < g0 (75 + 9 * a + 3) then
    let g1 := gu g0 (75 + 9 * a + 3) (g0 (75 + 9 * a + 3) - jI 1)
    gu g1 6 (g1 6 + jI 1)
  else g0
def cA (g : Gr) (i : Nat) : Nat := (g (183 + 2 * i)).toNatClampNeg
def cB (g : Gr) (i : Nat) : Nat := (g (184 + 2 * i)).toNatClampNeg
def hrAll (g : Gr) (nc : Nat) : Gr := gu (itN nc (fun i g => hrS g (cA g i) (cB g i)) g) 5 (jI 0)
def thrS (g : Gr) (nd : Nat) : Gr := itN nd (fun i g => gu g (75 + 9 * i + 4) (mn (jI 99) (g (75 + 9 * i + 4) + g (75 + 9 * i + 1)))) g
def lkS (g : Gr) (ng : Nat) : Gr := itN ng (fun i g => gu g (15 + 10 * i + 1) (mn (jI 50) (g (15 + 10 * i + 1) + jI 1))) g
/-- an hour: h is the hour -/
def hourS (oh : Nat → Nat → Bool) (ng nd nc h : Nat) (g : Gr) : Gr :=
  let g1 := if h % 24 ≤ 5 then g else thrS g nd
  let g2 := gu g1 7 (g1 7 + g1 1)
  let z := itN ng (dwnStep oh (h % 168) nd) (g2, g2 1)
  let z2 := if h % 24 ≤ 5 then itN nd (thvStep (z.1 0)) z else z
  let g3 := gu z2.1 11 (z2.1 11 + z2.2)
  let g4 := if h % 168 = 84 then hrAll g3 nc else g3
  let g5 := if h % 168 = 167 then lkS g4 ng else g4
  gu g5 0 (g5 0 + jI 1)
/-! a loop -/
theorem lupN {m : Nat} {K : Ou → Me → Prop} {n : Nat} (J : Nat → Sx → Prop) (hs : ∀ i x, i < n → J i x → (∀ x', J (i + 1) x' → Ev m x' K) → Ev m x K) (he : ∀ x, J n x → Ev m x K) : ∀ (d i : Nat) (x : Sx), i + d = n → J i x → Ev m x K
  | 0, i, x, h, hj => he x (by have : i = n := by omega
                               exact this ▸ hj)
  | d + 1, i, x, h, hj => hs i x (by omega) hj (fun x' hj' => lupN J hs he d (i + 1) x' (by omega) hj')
theorem lup0 {m : Nat} {K : Ou → Me → Prop} (n : Nat) (J : Nat → Sx → Prop) {x : Sx} (h0 : J 0 x) (hs : ∀ i x, i < n → J i x → (∀ x', J (i + 1) x' → Ev m x' K) → Ev m x K) (he : ∀ x, J n x → Ev m x K) : Ev m x K :=
  lupN J hs he n 0 x (by omega) h0
theorem jI_div {a b : Nat} (ha : a < 2147483648) (hb : b < 2147483648) : jI a / jI b = jI (a / b) := by
  apply Int32.toInt_inj.mp
  have hq : a / b < 2147483648 := Nat.lt_of_le_of_lt (Nat.div_le_self a b) ha
  rw [jI_toInt hq, Int32.toInt_div, jI_toInt ha, jI_toInt hb]
  rw [← Int.ofNat_tdiv]
  have h1 : (0 : Int) ≤ (a : Int) / (b : Int) := Int.ediv_nonneg (by omega) (by omega)
  have h2 : (a : Int) / (b : Int) ≤ a := Int.ediv_le_self _ (by omega)
  refine Int.bmod_eq_of_le ?_ ?_ <;> omega
theorem jI_rem {a b : Nat} (ha : a < 2147483648) (hb : b < 2147483648) : jI a - jI a / jI b * jI b = jI (a % b) := by
  rw [jI_div ha hb, jI_mul, jI_sub (Nat.div_mul_le_self a b)]
  congr 1
  have := Nat.mod_add_div a b
  rw [Nat.mul_comm] at this
  omega
theorem jI_mod {a b : Nat} : jI a - jI (a / b * b) = jI (a % b) := by
  rw [jI_sub (Nat.div_mul_le_self a b)]
  congr 1
  have := Nat.mod_add_div a b
  rw [Nat.mul_comm] at this
  omega
theorem jI_nz {n : Nat} (h0 : 0 < n) (h : n < 2147483648) : (jI n = jI 0) = False := eq_false (fun e => by
  have := (jI_inj h (by decide)).mp e
  omega)
theorem jI_ltT {a b : Nat} (ha : a < 2147483648) (hb : b < 2147483648) (h : a < b) : (jI a < jI b) = True := eq_true ((jI_lt ha hb).mpr h)
theorem bI_if {p : Prop} [Decidable p] {α : Sort _} {x y : α} : (if bI p = jI 0 then x else y) = if p then y else x := by
  unfold bI
  by_cases h : p
  · rw [if_pos h, if_pos h, if_neg (by decide)]
  · rw [if_neg h, if_neg h, if_pos rfl]
