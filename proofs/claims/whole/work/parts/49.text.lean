/-! TEXTS: what they say, and THE REFERENCE: how it reads them -/
set_option maxRecDepth 16384
section
variable {K : Ou → Me → Prop} {Ln : Nat} {σ : Nat → Nat → Int32} {g : Gr} {lo : Nat → Nat → Int64} {db : Nat → Nat → UInt64} {μ : Me} {td : Nat → Int32} {a n len : Nat} {c : Nat → Nat}
/-- a digit -/
def dg (c : Nat → Nat) (len a : Nat) : Bool := decide (a < len ∧ 48 ≤ c a ∧ c a ≤ 57)
def numS (c : Nat → Nat) (len : Nat) : Nat → Nat → Nat → Nat × Nat
  | 0, a, v => (a, v)
  | m + 1, a, v => if dg c len a = true then numS c len m (a + 1) (10 * v + (c a - 48)) else (a, v)
def numP (c : Nat → Nat) (len most a : Nat) : Nat ⊕ (Nat × Nat) := if dg c len a = true then .inr (numS c len most a 0) else .inl a
def chP (c : Nat → Nat) (len ch a : Nat) : Nat ⊕ Nat := if a < len ∧ c a = ch then .inr (a + 1) else .inl a
abbrev Rc : Type := Nat × Nat × Nat × Nat
/-- an order from the place a on: the place of the error, or the place behind it and what it says -/
def ordP (c : Nat → Nat) (len a : Nat) : Nat ⊕ (Nat × Rc) :=
  if a < len then
    if c a = 104 ∨ c a = 105 then (match numP c len 3 (a + 1) with
      | .inl e => .inl e
      | .inr (b, x) => .inr (b, c a, x, 0, 0))
    else if c a = 114 then (match numP c len 1 (a + 1) with
      | .inl e => .inl e
      | .inr (b, x) => .inr (b, c a, x, 0, 0))
    else if c a = 99 then (match numP c len 2 (a + 1) with
      | .inl e => .inl e
      | .inr (b, x) => match chP c len 62 b with
        | .inl e => .inl e
        | .inr b => match numP c len 2 b with
          | .inl e => .inl e
          | .inr (b, y) => .inr (b, c a, x, y, 0))
    else if c a = 111 ∨ c a = 115 then (match numP c len 1 (a + 1) with
      | .inl e => .inl e
      | .inr (b, x) => match chP c len 58 b with
        | .inl e => .inl e
        | .inr b => match numP c len 3 b with
          | .inl e => .inl e
          | .inr (b, y) => match chP c len 45 b with
            | .inl e => .inl e
            | .inr b => match numP c len 3 b with
              | .inl e => .inl e
              | .inr (b, z) => .inr (b, c a, x, y, z))
    else .inl a
  else .inl a
def txP (c : Nat → Nat) (len : Nat) : Nat → Nat → Nat ⊕ List Rc
  | 0, a => .inl a
  | f + 1, a => match ordP c len a with
    | .inl e => .inl e
    | .inr (b, r) => if b < len ∧ c b = 59 then (match txP c len f (b + 1) with
        | .inl e => .inl e
        | .inr l => .inr (r :: l)) else if b = len then .inr [r] else .inl b
theorem numS_ge {m : Nat} : ∀ {a v : Nat}, a ≤ len → a ≤ (numS c len m a v).1 ∧ (numS c len m a v).1 ≤ len := by
  induction m with
  | zero => intro a v h; exact ⟨Nat.le_refl _, h⟩
  | succ m ih =>
    intro a v h
    unfold numS
    by_cases hd : dg c len a = true
    · rw [if_pos hd]
      have : a < len := (of_decide_eq_true hd).1
      have := ih (a := a + 1) (v := 10 * v + (c a - 48)) (by omega)
      exact ⟨by omega, this.2⟩
    · rw [if_neg hd]; exact ⟨Nat.le_refl _, h⟩
theorem numP_ge {m b x : Nat} (hm : 0 < m) (h : numP c len m a = .inr (b, x)) : a + 1 ≤ b ∧ b ≤ len := by
  unfold numP at h
  split at h
  · next hd =>
    have : a < len := (of_decide_eq_true hd).1
    obtain ⟨m, rfl⟩ : ∃ m', m = m' + 1 := ⟨m - 1, by omega⟩
    unfold numS at h
    rw [if_pos hd] at h
    have q := numS_ge (c := c) (len := len) (m := m) (a := a + 1) (v := 10 * 0 + (c a - 48)) (by omega)
    rw [Sum.inr.inj h] at q
    exact q
  · cases h
theorem chP_ge {ch b : Nat} (h : chP c len ch a = .inr b) : b = a + 1 ∧ b ≤ len := by
  unfold chP at h
  split at h
  · next hd => cases h; exact ⟨rfl, by omega⟩
  · cases h
theorem ordP_ge {b : Nat} {r : Rc} (h : ordP c len a = .inr (b, r)) : a + 2 ≤ b ∧ b ≤ len := by
  unfold ordP at h
  split at h
  · split at h
    · split at h
      · cases h
      · next h1 => have := numP_ge (by decide) h1; cases h; omega
    · split at h
      · split at h
        · cases h
        · next h1 => have := numP_ge (by decide) h1; cases h; omega
      · split at h
        · split at h
          · cases h
          · next h1 =>
            have := numP_ge (by decide) h1
            split at h
            · cases h
            · next h2 =>
              have := chP_ge h2
              split at h
              · cases h
              · next h3 => have := numP_ge (by decide) h3; cases h; omega
        · split at h
          · split at h
            · cases h
            · next h1 =>
              have := numP_ge (by decide) h1
              split at h
              · cases h
              · next h2 =>
                have := chP_ge h2
                split at h
                · cases h
                · next h3 =>
                  have := numP_ge (by decide) h3
                  split at h
                  · cases h
                  · next h4 =>
                    have := chP_ge h4
                    split at h
                    · cases h
                    · next h5 => have := numP_ge (by decide) h5; cases h; omega
          · cases h
  · cases h
/-- the memory while a text is read: at, how many orders, what they tell -/
def TM (σ : Nat → Nat → Int32) (a n : Nat) (td : Nat → Int32) : Nat → Nat → Int32 := fun b k => if b = 368 ∧ k = 17 then jI a else if b = 368 ∧ k = 19 then jI n else if b = 376 then td k else σ b k
theorem TM_17 : TM σ a n td 368 17 = jI a := if_pos ⟨rfl, rfl⟩
theorem TM_19 : TM σ a n td 368 19 = jI n := by unfold TM; rw [if_neg (by omega), if_pos ⟨rfl, rfl⟩]
theorem TM_td {k : Nat} : TM σ a n td 376 k = td k := by unfold TM; rw [if_neg (by omega), if_neg (by omega), if_pos rfl]
theorem TM_o {b k : Nat} (h : b ≠ 376) (h2 : ¬ (b = 368 ∧ k = 17)) (h3 : ¬ (b = 368 ∧ k = 19)) : TM σ a n td b k = σ b k := by unfold TM; rw [if_neg h2, if_neg h3, if_neg h]
theorem TM_13 : TM σ a n td 368 13 = σ 368 13 := TM_o (by decide) (by decide) (by decide)
theorem TM_in {k : Nat} : TM σ a n td 374 k = σ 374 k := TM_o (by decide) (fun h => absurd h.1 (by decide)) (fun h => absurd h.1 (by decide))
theorem TM_u17 {b : Nat} : u2 (TM σ a n td) 368 17 (jI b) = TM σ b n td := by
  funext x j
  unfold u2 TM
  by_cases h : x = 368 ∧ j = 17
  · rw [if_pos h, if_pos h]
  · rw [if_neg h, if_neg h, if_neg h]
theorem TM_u19 {b : Nat} : u2 (TM σ a n td) 368 19 (jI b) = TM σ a b td := by
  funext x j
  unfold u2 TM
  by_cases h : x = 368 ∧ j = 19
  · rw [if_pos h, if_neg (by omega), if_pos h]
  · rw [if_neg h, if_neg h]
    by_cases h7 : x = 368 ∧ j = 17
    · rw [if_pos h7, if_pos h7]
    · rw [if_neg h7, if_neg h7, if_neg h]
theorem TM_utd {k : Nat} {v : Int32} : u2 (TM σ a n td) 376 k v = TM σ a n (gu td k v) := by
  funext x j
  unfold u2 TM gu
  by_cases h7 : x = 368 ∧ j = 17
  · rw [if_neg (by omega), if_pos h7, if_pos h7]
  · by_cases h9 : x = 368 ∧ j = 19
    · rw [if_neg (by omega), if_neg h7, if_pos h9, if_neg h7, if_pos h9]
    · by_cases h : x = 376
      · by_cases hj : j = k
        · rw [if_pos ⟨h, hj⟩, if_neg h7, if_neg h9, if_pos h, if_pos hj]
        · rw [if_neg (by omega), if_neg h7, if_neg h9, if_pos h, if_neg h7, if_neg h9, if_pos h, if_neg hj]
      · rw [if_neg (by omega), if_neg h7, if_neg h9, if_neg h, if_neg h7, if_neg h9, if_neg h]
theorem gu_gu {g : Gr} {k : Nat} {x y : Int32} : gu (gu g k x) k y = gu g k y := by
  funext j
  unfold gu
  by_cases h : j = k
  · rw [if_pos h, if_pos h]
  · rw [if_neg h, if_neg h, if_neg h]
/-- the sign at a place -/
def hxS (c : Nat → Nat) (len a : Nat) : Int32 := if a < len then jI (c a) else jm1
/-- the input -/
def INP (σ : Nat → Nat → Int32) (c : Nat → Nat) (len : Nat) : Prop := len ≤ 60 ∧ σ 368 13 = jI len ∧ ∀ k, k < len → σ 374 k = jI (c k) ∧ c k < 65536
theorem m_here (hI : INP σ c len) (ha : a ≤ len) : Ev 167 (0, [.ref 368], [], 0, 0, MM Ln (TM σ a n td) lo db) K ↔ K (.inl (some (.int (hxS c len a)))) (MM Ln (TM σ a n td) lo db) := by
  obtain ⟨i1, i2, i3⟩ := hI
  unfold hxS
  by_cases h : a < len
  · rw [if_pos h]
    have e := (i3 a h).1
    simp (disch := omega) only [s_167_0, s_167_1, s_167_4, s_167_5, s_167_8, s_167_11, s_167_12, s_167_15, s_167_16, s_167_19, s_167_20, s_167_23, s_167_24, jI_mul, jI_add, jI_tnc, jI_ixT, true_and, and_true, bZ_0, bZ_1, bZ_b, jI_nz, jI_div, jI_rem, jI_mod, Nat.add_zero, bI_if, not_false_iff, if_true, if_false, eq_self, TM_17, TM_13, i2, jI_le, TM_in, e]
    rw [if_neg (by omega)]
  · rw [if_neg h]
    have : a = len := by omega
    subst this
    simp only [s_167_0, s_167_1, s_167_4, s_167_5, s_167_8, s_167_11, s_167_12, s_167_15, s_167_16, s_167_19, s_167_20, s_167_23, s_167_24, TM_17, TM_13, i2, Int32.le_refl, if_true]
theorem hxS_eq (hI : INP σ c len) {ch : Nat} (hch : ch < 65536) : (hxS c len a = jI ch) = (a < len ∧ c a = ch) := by
  unfold hxS
  apply propext
  by_cases h : a < len
  · rw [if_pos h, jI_inj (by have := (hI.2.2 a h).2; omega) (by omega)]
    exact ⟨fun e => ⟨h, e⟩, fun e => e.2⟩
  · rw [if_neg h]
    exact ⟨fun e => absurd e.symm (jI_ne1 (by omega)), fun e => absurd e.1 h⟩
theorem hxS_dg (hI : INP σ c len) : (¬ hxS c len a < jI 48 ∧ ¬ jI 57 < hxS c len a) = (dg c len a = true) := by
  unfold hxS dg
  apply propext
  rw [decide_eq_true_eq]
  by_cases h : a < len
  · have := (hI.2.2 a h).2
    rw [if_pos h, jI_lt (by omega) (by omega), jI_lt (by omega) (by omega)]
    omega
  · rw [if_neg h]
    exact ⟨fun e => absurd (by decide : jm1 < jI 48) e.1, fun e => absurd e.1 h⟩
theorem m_skips {ch : Nat} (hI : INP σ c len) (ha : a ≤ len) (hch : ch < 65536) : Ev 168 (0, [.ref 368, .int (jI ch)], [], 0, 0, MM Ln (TM σ a n td) lo db) K ↔
    if a < len ∧ c a = ch then K (.inl (some (.int (jI 1)))) (MM Ln (TM σ (a + 1) n td) lo db) else K (.inl (some (.int (jI 0)))) (MM Ln (TM σ a n td) lo db) := by
  simp only [s_168_0, s_168_1, r_168_1, s_168_4, s_168_5, s_168_8, s_168_9, s_168_10, s_168_11, s_168_12, s_168_15, s_168_16, s_168_17, s_168_20, s_168_21, jI_mul, jI_add, jI_tnc, jI_ixT, true_and, and_true, bZ_0, bZ_1, bZ_b, jI_nz, jI_div, jI_rem, jI_mod, Nat.add_zero, bI_if, not_false_iff, if_true, if_false, eq_self, m_here hI ha, hxS_eq hI hch, TM_17, TM_u17]
theorem m_number {p most : Nat} (hI : INP σ c len) (ha : a ≤ len) (hp : p < 132) (hm : most ≤ 3) (F : ∀ e, numP c len most a = .inl e → e ≤ len → K (.inl (some (.int (jI 0)))) (MM Ln (TM σ e n td) lo db))
    (H : ∀ b x, numP c len most a = .inr (b, x) → K (.inl (some (.int (jI 1)))) (MM Ln (TM σ b n (gu td p (jI x))) lo db)) : Ev 169 (0, [.ref 368, .int (jI p), .int (jI most), .null], [], 0, 0, MM Ln (TM σ a n td) lo db) K := by
  simp (disch := omega) only [s_169_0, s_169_1, r_169_1, s_169_4, s_169_6, s_169_8, r_169_8, s_169_11, s_169_14, s_169_15, s_169_16, s_169_17, s_169_20, s_169_21, s_169_22, s_169_23, s_169_24, s_169_26, s_169_27, s_169_30, s_169_31, r_169_31, s_169_34, s_169_36, s_169_38, r_169_38, s_169_41, s_169_44, s_169_45, s_169_48, s_169_49, s_169_51, s_169_52, s_169_55, s_169_56, s_169_57, s_169_58, s_169_59, r_169_59, s_169_62, s_169_63, s_169_65, s_169_66, s_169_67, s_169_68, s_169_69, s_169_72, s_169_73, s_169_74, s_169_77, s_169_80, s_169_83, s_169_84, jI_mul, jI_add, jI_tnc, jI_ixT, true_and, and_true, bZ_0, bZ_1, bZ_b, jI_nz, jI_div, jI_rem, jI_mod, Nat.add_zero, bI_if, not_false_iff, if_true, if_false, eq_self, m_here hI ha, m_in, hxS_dg hI]
  unfold numP at F H
  by_cases hd : dg c len a = true
  · rw [if_pos hd] at F H
    rw [if_pos hd]
    simp (disch := omega) only [s_169_0, s_169_1, r_169_1, s_169_4, s_169_6, s_169_8, r_169_8, s_169_11, s_169_14, s_169_15, s_169_16, s_169_17, s_169_20, s_169_21, s_169_22, s_169_23, s_169_24, s_169_26, s_169_27, s_169_30, s_169_31, r_169_31, s_169_34, s_169_36, s_169_38, r_169_38, s_169_41, s_169_44, s_169_45, s_169_48, s_169_49, s_169_51, s_169_52, s_169_55, s_169_56, s_169_57, s_169_58, s_169_59, r_169_59, s_169_62, s_169_63, s_169_65, s_169_66, s_169_67, s_169_68, s_169_69, s_169_72, s_169_73, s_169_74, s_169_77, s_169_80, s_169_83, s_169_84, jI_mul, jI_add, jI_tnc, jI_ixT, true_and, and_true, bZ_0, bZ_1, bZ_b, jI_nz, jI_div, jI_rem, jI_mod, Nat.add_zero, bI_if, not_false_iff, if_true, if_false, eq_self, TM_utd]
    have go : ∀ d k a' v, k + d = most → a' ≤ len → numS c len d a' v = numS c len most a 0 → Ev 169 (25, [.ref 368, .int (jI p), .int (jI most), .int (jI k)], [], 0, 0, MM Ln (TM σ a' n (gu td p (jI v))) lo db) K := by
      intro d
      induction d with
      | zero =>
        intro k a' v h1 h2 h3
        rw [s_169_25]
        simp (disch := omega) only [s_169_0, s_169_1, r_169_1, s_169_4, s_169_6, s_169_8, r_169_8, s_169_11, s_169_14, s_169_15, s_169_16, s_169_17, s_169_20, s_169_21, s_169_22, s_169_23, s_169_24, s_169_26, s_169_27, s_169_30, s_169_31, r_169_31, s_169_34, s_169_36, s_169_38, r_169_38, s_169_41, s_169_44, s_169_45, s_169_48, s_169_49, s_169_51, s_169_52, s_169_55, s_169_56, s_169_57, s_169_58, s_169_59, r_169_59, s_169_62, s_169_63, s_169_65, s_169_66, s_169_67, s_169_68, s_169_69, s_169_72, s_169_73, s_169_74, s_169_77, s_169_80, s_169_83, s_169_84, jI_mul, jI_add, jI_tnc, jI_ixT, true_and, and_true, bZ_0, bZ_1, bZ_b, jI_nz, jI_div, jI_rem, jI_mod, Nat.add_zero, bI_if, not_false_iff, if_true, if_false, eq_self, jI_le]
        rw [if_pos (by omega)]
        exact H a' v (by rw [← h3]; rfl)
      | succ d ih =>
        intro k a' v h1 h2 h3
        rw [s_169_25]
        simp (disch := omega) only [s_169_0, s_169_1, r_169_1, s_169_4, s_169_6, s_169_8, r_169_8, s_169_11, s_169_14, s_169_15, s_169_16, s_169_17, s_169_20, s_169_21, s_169_22, s_169_23, s_169_24, s_169_26, s_169_27, s_169_30, s_169_31, r_169_31, s_169_34, s_169_36, s_169_38, r_169_38, s_169_41, s_169_44, s_169_45, s_169_48, s_169_49, s_169_51, s_169_52, s_169_55, s_169_56, s_169_57, s_169_58, s_169_59, r_169_59, s_169_62, s_169_63, s_169_65, s_169_66, s_169_67, s_169_68, s_169_69, s_169_72, s_169_73, s_169_74, s_169_77, s_169_80, s_169_83, s_169_84, jI_mul, jI_add, jI_tnc, jI_ixT, true_and, and_true, bZ_0, bZ_1, bZ_b, jI_nz, jI_div, jI_rem, jI_mod, Nat.add_zero, bI_if, not_false_iff, if_true, if_false, eq_self, jI_le, m_here hI h2, m_in, hxS_dg hI]
        rw [if_neg (by omega)]
        have e1 : numS c len (d + 1) a' v = if dg c len a' = true then numS c len d (a' + 1) (10 * v + (c a' - 48)) else (a', v) := rfl
        rw [e1] at h3
        by_cases hd : dg c len a' = true
        · rw [if_pos hd] at h3
          rw [if_pos hd]
          have hd' := of_decide_eq_true hd
          have e : hxS c len a' = jI (c a') := if_pos hd'.1
          simp (disch := omega) only [s_169_0, s_169_1, r_169_1, s_169_4, s_169_6, s_169_8, r_169_8, s_169_11, s_169_14, s_169_15, s_169_16, s_169_17, s_169_20, s_169_21, s_169_22, s_169_23, s_169_24, s_169_26, s_169_27, s_169_30, s_169_31, r_169_31, s_169_34, s_169_36, s_169_38, r_169_38, s_169_41, s_169_44, s_169_45, s_169_48, s_169_49, s_169_51, s_169_52, s_169_55, s_169_56, s_169_57, s_169_58, s_169_59, r_169_59, s_169_62, s_169_63, s_169_65, s_169_66, s_169_67, s_169_68, s_169_69, s_169_72, s_169_73, s_169_74, s_169_77, s_169_80, s_169_83, s_169_84, jI_mul, jI_add, jI_tnc, jI_ixT, true_and, and_true, bZ_0, bZ_1, bZ_b, jI_nz, jI_div, jI_rem, jI_mod, Nat.add_zero, bI_if, not_false_iff, if_true, if_false, eq_self, TM_td, m_here hI h2, gu_at, e, TM_17, TM_u17, TM_utd, gu_gu]
          rw [jI_sub (by omega), show 10 * v + c a' - 48 = 10 * v + (c a' - 48) by omega]
          exact ih (k + 1) (a' + 1) _ (by omega) (by omega) h3
        · rw [if_neg hd] at h3
          rw [if_neg hd]
          exact H a' v (by rw [← h3])
    exact go most 0 a 0 (by omega) ha rfl
  · rw [if_neg hd] at F
    rw [if_neg hd]
    exact F a rfl ha
end
