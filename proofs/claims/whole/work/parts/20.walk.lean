/-! WALKING: what the evaluator answers, a step at a time -/
def evF (r : Nat → Sx → Option (Ou × Me)) (m : Nat) (x : Sx) : Option (Ou × Me) := match lk m x.1 with
  | none => none
  | some op => match stp m op x with
    | some x' => r m x'
    | none => match cal m op x with
      | some (c, as, st') => match r c (stx c as x.2.2.2.2.2) with
        | some (o, μ') => match bak m x c st' o μ' with
          | some x' => r m x'
          | none => none
        | none => none
      | none => fin m op x
theorem ev_eq (n m : Nat) (x : Sx) : ev (n + 1) m x = evF (ev n) m x := rfl
theorem evF_mono {r r' : Nat → Sx → Option (Ou × Me)} (h : ∀ m x v, r m x = some v → r' m x = some v) {m : Nat} {x : Sx} {v : Ou × Me} (hv : evF r m x = some v) : evF r' m x = some v := by
  unfold evF at hv ⊢
  split at hv
  · cases hv
  · split at hv
    · exact h _ _ _ hv
    · split at hv
      · split at hv
        · next he =>
          rw [h _ _ _ he]
          split at hv
          · next hb => simp only [hb]; exact h _ _ _ hv
          · cases hv
        · cases hv
      · exact hv
theorem ev_succ : ∀ (n m : Nat) (x : Sx) (v : Ou × Me), ev n m x = some v → ev (n + 1) m x = some v
  | 0, _, _, _, h => by cases h
  | n + 1, m, x, v, h => by
    rw [ev_eq] at h ⊢
    exact evF_mono (fun m x v => ev_succ n m x v) h
theorem ev_le {n n' m : Nat} {x : Sx} {v : Ou × Me} (hn : n ≤ n') (h : ev n m x = some v) : ev n' m x = some v := by
  induction hn with
  | refl => exact h
  | step _ ih => exact ev_succ _ _ _ _ ih
def Ev (m : Nat) (x : Sx) (K : Ou → Me → Prop) : Prop := ∃ n o μ, ev n m x = some (o, μ) ∧ K o μ
def BK (m : Nat) (pc : Nat) (L : Lc) (st : List Value) (k s c : Nat) (K : Ou → Me → Prop) : Ou → Me → Prop := fun o μ' => ∃ x', bak m (pc, L, [], k, s, μ') c st o μ' = some x' ∧ Ev m x' K
theorem Ev_mono {m : Nat} {x : Sx} {K K' : Ou → Me → Prop} (h : Ev m x K) (hK : ∀ o μ, K o μ → K' o μ) : Ev m x K' := by
  obtain ⟨n, o, μ, h1, h2⟩ := h
  exact ⟨n, o, μ, h1, hK _ _ h2⟩
section
variable {m : Nat} {x x' : Sx} {op : Op} {K : Ou → Me → Prop}
theorem Ev_pos (hl : lk m x.1 = some op) : Ev m x K ↔ ∃ n o μ, evF (ev n) m x = some (o, μ) ∧ K o μ := by
  constructor
  · rintro ⟨n, o, μ, h1, h2⟩
    cases n with
    | zero => cases h1
    | succ n => exact ⟨n, o, μ, h1, h2⟩
  · rintro ⟨n, o, μ, h1, h2⟩
    exact ⟨n + 1, o, μ, h1, h2⟩
theorem Ev_stp (hl : lk m x.1 = some op) (hs : stp m op x = some x') : Ev m x K ↔ Ev m x' K := by
  rw [Ev_pos hl]
  simp only [evF, hl, hs]
  exact Iff.rfl
theorem Ev_fin {o : Ou} {μ : Me} (hl : lk m x.1 = some op) (hs : stp m op x = none) (hc : cal m op x = none) (hf : fin m op x = some (o, μ)) : Ev m x K ↔ K o μ := by
  rw [Ev_pos hl]
  simp only [evF, hl, hs, hc, hf]
  constructor
  · rintro ⟨n, o', μ', h1, h2⟩
    cases h1
    exact h2
  · exact fun h => ⟨0, o, μ, rfl, h⟩
theorem Ev_no (hl : lk m x.1 = some op) (hs : stp m op x = none) (hc : cal m op x = none) (hf : fin m op x = none) : Ev m x K ↔ False := by
  rw [Ev_pos hl]
  simp only [evF, hl, hs, hc, hf]
  constructor
  · rintro ⟨n, o', μ', h1, h2⟩
    cases h1
  · exact False.elim
theorem Ev_cal {c : Nat} {as st' : List Value} {pc : Nat} {L : Lc} {st : List Value} {k s : Nat} {μ : Me} (hl : lk m pc = some op) (hs : stp m op (pc, L, st, k, s, μ) = none) (hc : cal m op (pc, L, st, k, s, μ) = some (c, as, st')) :
    Ev m (pc, L, st, k, s, μ) K ↔ Ev c (stx c as μ) (BK m pc L st' k s c K) := by
  rw [Ev_pos (op := op) hl]
  constructor
  · rintro ⟨n, o, μ', h1, h2⟩
    simp only [evF, hl, hs, hc] at h1
    split at h1
    · next o1 μ1 he =>
      split at h1
      · next x' hb => exact ⟨n, o1, μ1, he, x', hb, n, o, μ', h1, h2⟩
      · cases h1
    · cases h1
  · rintro ⟨n, o1, μ1, he, x', hb, n', o, μ', h1, h2⟩
    refine ⟨max n n', o, μ', ?_, h2⟩
    simp only [evF, hl, hs, hc, ev_le (Nat.le_max_left n n') he]
    rw [show bak m (pc, L, st, k, s, μ) c st' o1 μ1 = some x' from hb]
    exact ev_le (Nat.le_max_right n n') h1
end
theorem BK_ret {m pc : Nat} {L : Lc} {st : List Value} {k s c : Nat} {K : Ou → Me → Prop} {v : Value} {μ : Me} : BK m pc L st k s c K (.inl (some v)) μ ↔ Ev m (pc + 3, L, v :: st, k + mC c, s + mS c, μ) K := by
  constructor
  · rintro ⟨x', h1, h2⟩
    cases h1
    exact h2
  · exact fun h => ⟨_, rfl, h⟩
theorem BK_void {m pc : Nat} {L : Lc} {st : List Value} {k s c : Nat} {K : Ou → Me → Prop} {μ : Me} : BK m pc L st k s c K (.inl none) μ ↔ Ev m (pc + 3, L, st, k + mC c, s + mS c, μ) K := by
  constructor
  · rintro ⟨x', h1, h2⟩
    cases h1
    exact h2
  · exact fun h => ⟨_, rfl, h⟩
theorem BK_thr {m pc : Nat} {L : Lc} {st : List Value} {k s c : Nat} {K : Ou → Me → Prop} {E : Nat} {μ : Me} {x' : Sx} (h : bak m (pc, L, [], k, s, μ) c st (.inr E) μ = some x') : BK m pc L st k s c K (.inr E) μ ↔ Ev m x' K := by
  constructor
  · rintro ⟨x', h1, h2⟩
    cases h.symm.trans h1
    exact h2
  · exact fun hh => ⟨_, h, hh⟩
/-- what an int is, as a number -/
def jI (n : Nat) : Int32 := Int32.ofNat n
theorem jI_add (a b : Nat) : jI a + jI b = jI (a + b) := (Int32.ofNat_add a b).symm
theorem jI_mul (a b : Nat) : jI a * jI b = jI (a * b) := (Int32.ofNat_mul a b).symm
theorem jI_toInt {a : Nat} (h : a < 2147483648) : (jI a).toInt = a := Int32.toInt_ofNat_of_lt h
theorem jI_sub {a b : Nat} (h : b ≤ a) : jI a - jI b = jI (a - b) := by
  have : jI a = jI (a - b) + jI b := by rw [jI_add, Nat.sub_add_cancel h]
  rw [this, Int32.add_sub_cancel]
theorem jI_lt {a b : Nat} (ha : a < 2147483648) (hb : b < 2147483648) : jI a < jI b ↔ a < b := by
  rw [Int32.lt_iff_toInt_lt, jI_toInt ha, jI_toInt hb]; omega
theorem jI_le {a b : Nat} (ha : a < 2147483648) (hb : b < 2147483648) : jI a ≤ jI b ↔ a ≤ b := by
  rw [Int32.le_iff_toInt_le, jI_toInt ha, jI_toInt hb]; omega
theorem jI_inj {a b : Nat} (ha : a < 2147483648) (hb : b < 2147483648) : jI a = jI b ↔ a = b := by
  constructor
  · intro h
    have := congrArg Int32.toInt h
    rw [jI_toInt ha, jI_toInt hb] at this
    omega
  · rintro rfl; rfl
theorem jI_tnc {a : Nat} (ha : a < 2147483648) : (jI a).toNatClampNeg = a := by
  rw [Int32.toNatClampNeg, jI_toInt ha]; omega
theorem jI_ix {a n : Nat} (ha : a < 2147483648) : ixIn (jI a) n ↔ a < n := by
  unfold ixIn
  rw [jI_tnc ha]
  have : ¬ jI a < 0 := by
    have : (0 : Int32) = jI 0 := rfl
    rw [this, jI_lt ha (by decide)]; omega
  simp only [this, false_or]; omega
theorem jI_ix' {a n : Nat} (ha : a < 2147483648) (hn : a < n) : ixIn (jI a) n := (jI_ix ha).mpr hn
theorem jI_of {v : Int32} (h : 0 ≤ v) : ∃ n, n < 2147483648 ∧ v = jI n := by
  refine ⟨v.toInt.toNat, ?_, ?_⟩
  · have := v.toInt_lt; omega
  · apply Int32.toInt_inj.mp
    have h0 : (0 : Int) ≤ v.toInt := by simpa using Int32.le_iff_toInt_le.mp h
    have := v.toInt_lt
    rw [jI_toInt (by omega)]; omega
theorem jI_range {v : Int32} {n : Nat} (hn : n < 2147483648) (h : 0 ≤ v) (h2 : v < jI n) : ∃ a, a < n ∧ v = jI a := by
  obtain ⟨a, ha, rfl⟩ := jI_of h
  exact ⟨a, (jI_lt ha hn).mp h2, rfl⟩
