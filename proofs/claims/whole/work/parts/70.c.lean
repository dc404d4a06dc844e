/-! THE CLASS: how it reads a text -/
set_option maxRecDepth 16384
section
variable {K : Ou → Me → Prop} {Ln : Nat} {σ : Nat → Nat → Int32} {lo : Nat → Nat → Int64} {db : Nat → Nat → UInt64} {μ : Me} {od : Nat → Nat → Int32} {a n len i : Nat} {c : Nat → Nat}
/-- the memory while a text is taken apart -/
def TK (σ : Nat → Nat → Int32) (a n : Nat) (od : Nat → Nat → Int32) : Nat → Nat → Int32 := fun b k => if b = 344 ∧ k = 4 then jI a else if b = 344 ∧ k = 3 then jI n else if 347 ≤ b ∧ b < 367 then od (b - 347) k else σ b k
theorem TK_4 : TK σ a n od 344 4 = jI a := if_pos ⟨rfl, rfl⟩
theorem TK_3 : TK σ a n od 344 3 = jI n := by unfold TK; rw [if_neg (by omega), if_pos ⟨rfl, rfl⟩]
theorem TK_2 : TK σ a n od 344 2 = σ 344 2 := by unfold TK; rw [if_neg (by omega), if_neg (by omega), if_neg (by omega)]
theorem TK_s {k : Nat} : TK σ a n od 345 k = σ 345 k := by unfold TK; rw [if_neg (by omega), if_neg (by omega), if_neg (by omega)]
theorem TK_o {k : Nat} (hi : i < 20) : TK σ a n od (oA i) k = od i k := by unfold TK oA; rw [if_neg (by omega), if_neg (by omega), if_pos (by omega), show 347 + i - 347 = i by omega]
theorem TK_u4 {b : Nat} : u2 (TK σ a n od) 344 4 (jI b) = TK σ b n od := by
  funext x j
  unfold u2 TK
  by_cases h : x = 344 ∧ j = 4
  · rw [if_pos h, if_pos h]
  · rw [if_neg h, if_neg h, if_neg h]
theorem TK_u3 {b : Nat} : u2 (TK σ a n od) 344 3 (jI b) = TK σ a b od := by
  funext x j
  unfold u2 TK
  by_cases h : x = 344 ∧ j = 3
  · rw [if_pos h, if_neg (by omega), if_pos h]
  · rw [if_neg h, if_neg h]
    by_cases h7 : x = 344 ∧ j = 4
    · rw [if_pos h7, if_pos h7]
    · rw [if_neg h7, if_neg h7, if_neg h]
theorem TK_uo {k : Nat} {v : Int32} (hi : i < 20) : u2 (TK σ a n od) (oA i) k v = TK σ a n (u2 od i k v) := by
  funext x j
  unfold u2 TK oA
  by_cases h7 : x = 344 ∧ j = 4
  · rw [if_neg (by omega), if_pos h7, if_pos h7]
  · by_cases h9 : x = 344 ∧ j = 3
    · rw [if_neg (by omega), if_neg h7, if_pos h9, if_neg h7, if_pos h9]
    · rw [if_neg h7, if_neg h9, if_neg h7, if_neg h9]
      by_cases h : 347 ≤ x ∧ x < 367
      · rw [if_pos h, if_pos h]
        by_cases hj : x = 347 + i ∧ j = k
        · rw [if_pos hj]; exact (if_pos (by omega)).symm
        · rw [if_neg hj]; exact (if_neg (by omega)).symm
      · rw [if_neg (by omega), if_neg h, if_neg h]
def INC (σ : Nat → Nat → Int32) (c : Nat → Nat) (len : Nat) : Prop := len ≤ 60 ∧ σ 344 2 = jI len ∧ ∀ k, k < len → σ 345 k = jI (c k) ∧ c k < 65536
theorem c_within {v l h : Int32} : Ev 105 (0, [.int v, .int l, .int h], [], 0, 0, MM Ln σ lo db) K ↔ K (.inl (some (.int (bI (¬ v < l ∧ ¬ h < v))))) (MM Ln σ lo db) := by
  simp only [s_105_0, s_105_1, s_105_2, s_105_5, s_105_6, s_105_7, s_105_10, s_105_11, s_105_14, s_105_15, jI_mul, jI_add, jI_tnc, jI_ixT, true_and, and_true, bZ_0, bZ_1, bZ_b, jI_nz, jI_div, jI_rem, jI_mod, Nat.add_zero, bI_if, not_false_iff, if_true, if_false, eq_self]
  unfold bI
  by_cases h1 : v < l <;> by_cases h2 : h < v <;> simp only [h1, h2, if_true, if_false, not_true, not_false_iff, and_true, and_false, true_and]
theorem c_isDigit {v : Int32} : Ev 71 (0, [.int v], [], 0, 0, MM Ln σ lo db) K ↔ K (.inl (some (.int (bI (¬ v < jI 48 ∧ ¬ jI 57 < v))))) (MM Ln σ lo db) := by
  simp only [s_71_0, s_71_1, s_71_3, s_71_6, s_71_7, s_71_9, s_71_12, s_71_13, s_71_16, s_71_17, jI_mul, jI_add, jI_tnc, jI_ixT, true_and, and_true, bZ_0, bZ_1, bZ_b, jI_nz, jI_div, jI_rem, jI_mod, Nat.add_zero, bI_if, not_false_iff, if_true, if_false, eq_self]
  unfold bI
  by_cases h1 : v < jI 48 <;> by_cases h2 : jI 57 < v <;> simp only [h1, h2, if_true, if_false, not_true, not_false_iff, and_true, and_false, true_and]
theorem c_sign {ch : Nat} (hI : INC σ c len) (ha : a ≤ len) (hch : ch < 65536) : Ev 69 (0, [.ref 344, .int (jI ch)], [], 0, 0, MM Ln (TK σ a n od) lo db) K ↔
    if a < len ∧ c a = ch then K (.inl (some (.int (jI 1)))) (MM Ln (TK σ (a + 1) n od) lo db) else K (.inl (some (.int (jI 0)))) (MM Ln (TK σ a n od) lo db) := by
  obtain ⟨i1, i2, i3⟩ := hI
  by_cases h : a < len
  · obtain ⟨e, hc⟩ := i3 a h
    simp (disch := omega) only [s_69_0, s_69_1, s_69_4, s_69_5, s_69_8, s_69_11, s_69_12, s_69_15, s_69_16, s_69_19, s_69_20, s_69_21, s_69_24, s_69_25, s_69_26, s_69_27, s_69_28, s_69_31, s_69_32, s_69_33, s_69_36, s_69_37, jI_mul, jI_add, jI_tnc, jI_ixT, true_and, and_true, bZ_0, bZ_1, bZ_b, jI_nz, jI_div, jI_rem, jI_mod, Nat.add_zero, bI_if, not_false_iff, if_true, if_false, eq_self, TK_4, TK_2, i2, jI_le, TK_s, e, jI_inj, TK_u4]
    rw [if_neg (by omega)]
    by_cases q : c a = ch
    · rw [if_pos q, if_pos ⟨h, q⟩]
    · rw [if_neg q, if_neg (fun e => q e.2)]
  · have e0 : a = len := by omega
    subst e0
    rw [if_neg (fun e => h e.1)]
    simp only [s_69_0, s_69_1, s_69_4, s_69_5, s_69_8, s_69_11, s_69_12, s_69_16, s_69_19, s_69_20, s_69_21, s_69_24, s_69_25, s_69_26, s_69_27, s_69_28, s_69_31, s_69_32, s_69_33, s_69_36, s_69_37, jI_mul, jI_add, jI_tnc, jI_ixT, true_and, and_true, bZ_0, bZ_1, bZ_b, jI_nz, jI_div, jI_rem, jI_mod, Nat.add_zero, bI_if, not_false_iff, if_true, if_false, eq_self, TK_4, TK_2, i2, Int32.le_refl]
theorem dg_c (hI : INC σ c len) (h : a < len) : (¬ jI (c a) < jI 48 ∧ ¬ jI 57 < jI (c a)) = (dg c len a = true) := by
  unfold dg
  apply propext
  have := (hI.2.2 a h).2
  rw [decide_eq_true_eq, jI_lt (by omega) (by omega), jI_lt (by omega) (by omega)]
  omega
theorem c_number {most : Nat} (hI : INC σ c len) (ha : a ≤ len) (hm : most ≤ 3) (hm1 : 0 < most) (F : ∀ e, numP c len most a = .inl e → e ≤ len → K (.inl (some (.int jm1))) (MM Ln (TK σ e n od) lo db))
    (H : ∀ b x, numP c len most a = .inr (b, x) → x < 1000 → K (.inl (some (.int (jI x)))) (MM Ln (TK σ b n od) lo db)) : Ev 70 (0, [.ref 344, .int (jI most), .null, .null], [], 0, 0, MM Ln (TK σ a n od) lo db) K := by
  have hI' := hI
  obtain ⟨i1, i2, i3⟩ := hI
  unfold numP at F H
  simp (disch := omega) only [s_70_0, s_70_1, s_70_2, s_70_3, s_70_5, s_70_6, s_70_9, s_70_10, s_70_13, s_70_14, s_70_17, s_70_20, s_70_21, s_70_24, s_70_25, s_70_28, s_70_29, r_70_29, s_70_32, s_70_35, s_70_36, s_70_37, s_70_40, s_70_41, s_70_44, s_70_45, s_70_47, s_70_48, s_70_49, s_70_52, s_70_53, s_70_56, s_70_57, s_70_59, s_70_60, s_70_61, s_70_62, s_70_63, s_70_64, s_70_67, s_70_68, s_70_69, s_70_72, s_70_75, s_70_78, s_70_79, jI_mul, jI_add, jI_tnc, jI_ixT, true_and, and_true, bZ_0, bZ_1, bZ_b, jI_nz, jI_div, jI_rem, jI_mod, Nat.add_zero, bI_if, not_false_iff, if_true, if_false, eq_self]
  have go : ∀ d k a' v, k + d = most → 1 ≤ k → v + 1 ≤ 10 ^ k → a' ≤ len → numS c len d a' v = numS c len most a 0 → dg c len a = true → Ev 70 (4, [.ref 344, .int (jI most), .int (jI v), .int (jI k)], [], 0, 0, MM Ln (TK σ a' n od) lo db) K := by
    intro d
    induction d with
    | zero =>
      intro k a' v h1 hk hv h2 h3 hd
      rw [if_pos hd, ← h3] at H
      have : 10 ^ k ≤ 10 ^ 3 := Nat.pow_le_pow_right (by decide) (by omega)
      rw [s_70_4]
      simp (disch := omega) only [s_70_0, s_70_1, s_70_2, s_70_3, s_70_5, s_70_6, s_70_9, s_70_10, s_70_13, s_70_14, s_70_17, s_70_20, s_70_21, s_70_24, s_70_25, s_70_28, s_70_29, r_70_29, s_70_32, s_70_35, s_70_36, s_70_37, s_70_40, s_70_41, s_70_44, s_70_45, s_70_47, s_70_48, s_70_49, s_70_52, s_70_53, s_70_56, s_70_57, s_70_59, s_70_60, s_70_61, s_70_62, s_70_63, s_70_64, s_70_67, s_70_68, s_70_69, s_70_72, s_70_75, s_70_78, s_70_79, jI_mul, jI_add, jI_tnc, jI_ixT, true_and, and_true, bZ_0, bZ_1, bZ_b, jI_nz, jI_div, jI_rem, jI_mod, Nat.add_zero, bI_if, not_false_iff, if_true, if_false, eq_self, jI_le]
      rw [if_pos (by omega)]
      exact H a' v rfl (by omega)
    | succ d ih =>
      intro k a' v h1 hk hv h2 h3 hd
      have hp : 10 ^ k ≤ 10 ^ 3 := Nat.pow_le_pow_right (by decide) (by omega)
      have e1 : numS c len (d + 1) a' v = if dg c len a' = true then numS c len d (a' + 1) (10 * v + (c a' - 48)) else (a', v) := rfl
      rw [e1] at h3
      rw [s_70_4]
      by_cases hal : a' < len
      · obtain ⟨e, hc⟩ := i3 a' hal
        simp (disch := omega) only [s_70_0, s_70_1, s_70_2, s_70_3, s_70_5, s_70_6, s_70_9, s_70_10, s_70_13, s_70_14, s_70_17, s_70_20, s_70_21, s_70_24, s_70_25, s_70_28, s_70_29, r_70_29, s_70_32, s_70_35, s_70_36, s_70_37, s_70_40, s_70_41, s_70_44, s_70_45, s_70_47, s_70_48, s_70_49, s_70_52, s_70_53, s_70_56, s_70_57, s_70_59, s_70_60, s_70_61, s_70_62, s_70_63, s_70_64, s_70_67, s_70_68, s_70_69, s_70_72, s_70_75, s_70_78, s_70_79, jI_mul, jI_add, jI_tnc, jI_ixT, true_and, and_true, bZ_0, bZ_1, bZ_b, jI_nz, jI_div, jI_rem, jI_mod, Nat.add_zero, bI_if, not_false_iff, if_true, if_false, eq_self, jI_le, TK_4, TK_2, i2, TK_s, e, c_isDigit, dg_c hI' hal]
        rw [if_neg (by omega), if_neg (by omega)]
        by_cases hd' : dg c len a' = true
        · rw [if_pos hd'] at h3
          have hq := of_decide_eq_true hd'
          have nm : (jI v = jm1) = False := eq_false (jI_ne1 (by omega))
          simp (disch := omega) only [if_pos hd', nm, s_70_0, s_70_1, s_70_2, s_70_3, s_70_5, s_70_6, s_70_9, s_70_10, s_70_13, s_70_14, s_70_17, s_70_20, s_70_21, s_70_24, s_70_25, s_70_28, s_70_29, r_70_29, s_70_32, s_70_35, s_70_36, s_70_37, s_70_40, s_70_41, s_70_44, s_70_45, s_70_47, s_70_48, s_70_49, s_70_52, s_70_53, s_70_56, s_70_57, s_70_59, s_70_60, s_70_61, s_70_62, s_70_63, s_70_64, s_70_67, s_70_68, s_70_69, s_70_72, s_70_75, s_70_78, s_70_79, jI_mul, jI_add, jI_tnc, jI_ixT, true_and, and_true, bZ_0, bZ_1, bZ_b, jI_nz, jI_div, jI_rem, jI_mod, Nat.add_zero, bI_if, not_false_iff, if_true, if_false, eq_self, TK_4, TK_s, e, TK_u4, jI_sub]
          rw [show v * 10 + (c a' - 48) = 10 * v + (c a' - 48) by omega]
          exact ih (k + 1) (a' + 1) _ (by omega) (by omega) (by rw [Nat.pow_succ]; omega) (by omega) h3 hd
        · rw [if_neg hd'] at h3 ⊢
          rw [if_pos hd, ← h3] at H
          try simp (disch := omega) only [s_70_0, s_70_1, s_70_2, s_70_3, s_70_5, s_70_6, s_70_9, s_70_10, s_70_13, s_70_14, s_70_17, s_70_20, s_70_21, s_70_24, s_70_25, s_70_28, s_70_29, r_70_29, s_70_32, s_70_35, s_70_36, s_70_37, s_70_40, s_70_41, s_70_44, s_70_45, s_70_47, s_70_48, s_70_49, s_70_52, s_70_53, s_70_56, s_70_57, s_70_59, s_70_60, s_70_61, s_70_62, s_70_63, s_70_64, s_70_67, s_70_68, s_70_69, s_70_72, s_70_75, s_70_78, s_70_79, jI_mul, jI_add, jI_tnc, jI_ixT, true_and, and_true, bZ_0, bZ_1, bZ_b, jI_nz, jI_div, jI_rem, jI_mod, Nat.add_zero, bI_if, not_false_iff, if_true, if_false, eq_self]
          exact H a' v rfl (by omega)
      · have e0 : a' = len := by omega
        subst e0
        have hd' : ¬ dg c a' a' = true := fun e => hal (of_decide_eq_true e).1
        rw [if_neg hd'] at h3
        rw [if_pos hd, ← h3] at H
        simp (disch := omega) only [s_70_0, s_70_1, s_70_2, s_70_3, s_70_5, s_70_6, s_70_9, s_70_10, s_70_13, s_70_14, s_70_17, s_70_20, s_70_24, s_70_25, s_70_28, s_70_29, r_70_29, s_70_32, s_70_35, s_70_36, s_70_37, s_70_40, s_70_41, s_70_44, s_70_45, s_70_47, s_70_48, s_70_49, s_70_52, s_70_53, s_70_56, s_70_57, s_70_59, s_70_60, s_70_61, s_70_62, s_70_63, s_70_64, s_70_67, s_70_68, s_70_69, s_70_72, s_70_75, s_70_78, s_70_79, jI_mul, jI_add, jI_tnc, jI_ixT, true_and, and_true, bZ_0, bZ_1, bZ_b, jI_nz, jI_div, jI_rem, jI_mod, Nat.add_zero, bI_if, not_false_iff, if_true, if_false, eq_self, jI_le, TK_4, TK_2, i2, Int32.le_refl, if_true, ite_self]
        exact H a' v rfl (by omega)
  obtain ⟨d, rfl⟩ : ∃ d, most = d + 1 := ⟨most - 1, by omega⟩
  rw [s_70_4]
  by_cases hal : a < len
  · obtain ⟨e, hc⟩ := i3 a hal
    simp (disch := omega) only [s_70_0, s_70_1, s_70_2, s_70_3, s_70_5, s_70_6, s_70_9, s_70_10, s_70_13, s_70_14, s_70_17, s_70_20, s_70_21, s_70_24, s_70_25, s_70_28, s_70_29, r_70_29, s_70_32, s_70_35, s_70_36, s_70_37, s_70_40, s_70_41, s_70_44, s_70_45, s_70_47, s_70_48, s_70_49, s_70_52, s_70_53, s_70_56, s_70_57, s_70_59, s_70_60, s_70_61, s_70_62, s_70_63, s_70_64, s_70_67, s_70_68, s_70_69, s_70_72, s_70_75, s_70_78, s_70_79, jI_mul, jI_add, jI_tnc, jI_ixT, true_and, and_true, bZ_0, bZ_1, bZ_b, jI_nz, jI_div, jI_rem, jI_mod, Nat.add_zero, bI_if, not_false_iff, if_true, if_false, eq_self, jI_le, TK_4, TK_2, i2, TK_s, e, c_isDigit, dg_c hI' hal]
    rw [if_neg (by omega), if_neg (by omega)]
    by_cases hd : dg c len a = true
    · have hq := of_decide_eq_true hd
      simp (disch := omega) only [if_pos hd, s_70_0, s_70_1, s_70_2, s_70_3, s_70_5, s_70_6, s_70_9, s_70_10, s_70_13, s_70_14, s_70_17, s_70_20, s_70_21, s_70_24, s_70_25, s_70_28, s_70_29, r_70_29, s_70_32, s_70_35, s_70_36, s_70_37, s_70_40, s_70_41, s_70_44, s_70_45, s_70_47, s_70_48, s_70_49, s_70_52, s_70_53, s_70_56, s_70_57, s_70_59, s_70_60, s_70_61, s_70_62, s_70_63, s_70_64, s_70_67, s_70_68, s_70_69, s_70_72, s_70_75, s_70_78, s_70_79, jI_mul, jI_add, jI_tnc, jI_ixT, true_and, and_true, bZ_0, bZ_1, bZ_b, jI_nz, jI_div, jI_rem, jI_mod, Nat.add_zero, bI_if, not_false_iff, if_true, if_false, eq_self, TK_4, TK_s, e, TK_u4, jI_sub]
      refine go d (0 + 1) (a + 1) _ (by omega) (by omega) (by omega) (by omega) ?_ hd
      have e1 : numS c len (d + 1) a 0 = if dg c len a = true then numS c len d (a + 1) (10 * 0 + (c a - 48)) else (a, 0) := rfl
      rw [e1, if_pos hd]
    · rw [if_neg hd] at F
      rw [if_neg hd]
      try simp (disch := omega) only [s_70_0, s_70_1, s_70_2, s_70_3, s_70_5, s_70_6, s_70_9, s_70_10, s_70_13, s_70_14, s_70_17, s_70_20, s_70_21, s_70_24, s_70_25, s_70_28, s_70_29, r_70_29, s_70_32, s_70_35, s_70_36, s_70_37, s_70_40, s_70_41, s_70_44, s_70_45, s_70_47, s_70_48, s_70_49, s_70_52, s_70_53, s_70_56, s_70_57, s_70_59, s_70_60, s_70_61, s_70_62, s_70_63, s_70_64, s_70_67, s_70_68, s_70_69, s_70_72, s_70_75, s_70_78, s_70_79, jI_mul, jI_add, jI_tnc, jI_ixT, true_and, and_true, bZ_0, bZ_1, bZ_b, jI_nz, jI_div, jI_rem, jI_mod, Nat.add_zero, bI_if, not_false_iff, if_true, if_false, eq_self]
      exact F a rfl ha
  · have e0 : a = len := by omega
    subst e0
    have hd : ¬ dg c a a = true := fun e => hal (of_decide_eq_true e).1
    rw [if_neg hd] at F
    simp (disch := omega) only [s_70_0, s_70_1, s_70_2, s_70_3, s_70_5, s_70_6, s_70_9, s_70_10, s_70_13, s_70_14, s_70_17, s_70_20, s_70_24, s_70_25, s_70_28, s_70_29, r_70_29, s_70_32, s_70_35, s_70_36, s_70_37, s_70_40, s_70_41, s_70_44, s_70_45, s_70_47, s_70_48, s_70_49, s_70_52, s_70_53, s_70_56, s_70_57, s_70_59, s_70_60, s_70_61, s_70_62, s_70_63, s_70_64, s_70_67, s_70_68, s_70_69, s_70_72, s_70_75, s_70_78, s_70_79, jI_mul, jI_add, jI_tnc, jI_ixT, true_and, and_true, bZ_0, bZ_1, bZ_b, jI_nz, jI_div, jI_rem, jI_mod, Nat.add_zero, bI_if, not_false_iff, if_true, if_false, eq_self, jI_le, TK_4, TK_2, i2, Int32.le_refl, if_true]
    rw [if_neg (by omega)]
    exact F a rfl ha
/-- what an order's cells hold -/
def odR (od : Nat → Nat → Int32) (n : Nat) (r : Rc) : Prop := od n 0 = jI r.1 ∧ od n 1 = jI r.2.1 ∧ ((r.1 = 99 ∨ r.1 = 111 ∨ r.1 = 115) → od n 2 = jI r.2.2.1) ∧ ((r.1 = 111 ∨ r.1 = 115) → od n 3 = jI r.2.2.2)
/-- behind the letter of a complaint -/
def cmP (c : Nat → Nat) (len a : Nat) : Nat ⊕ (Nat × Nat × Nat) := match numP c len 2 a with
  | .inl e => .inl e
  | .inr (b, x) => match chP c len 62 b with
    | .inl e => .inl e
    | .inr b => match numP c len 2 b with
      | .inl e => .inl e
      | .inr (b, y) => .inr (b, x, y)
/-- behind the letter of hours -/
def hrP (c : Nat → Nat) (len a : Nat) : Nat ⊕ (Nat × Nat × Nat × Nat) := match numP c len 1 a with
  | .inl e => .inl e
  | .inr (b, x) => match chP c len 58 b with
    | .inl e => .inl e
    | .inr b => match numP c len 3 b with
      | .inl e => .inl e
      | .inr (b, y) => match chP c len 45 b with
        | .inl e => .inl e
        | .inr b => match numP c len 3 b with
          | .inl e => .inl e
          | .inr (b, z) => .inr (b, x, y, z)
theorem ordP_c (h : a < len) (hc : c a = 99) : ordP c len a = match cmP c len (a + 1) with
    | .inl e => .inl e
    | .inr (b, x, y) => .inr (b, 99, x, y, 0) := by
  unfold ordP cmP
  rw [if_pos h, if_neg (by omega), if_neg (by omega), if_pos hc, hc]
  rcases numP c len 2 (a + 1) with e | ⟨b, x⟩
  · rfl
  · dsimp only
    rcases chP c len 62 b with e | b
    · rfl
    · dsimp only
      rcases numP c len 2 b with e | ⟨b, y⟩
      · rfl
      · rfl
theorem ordP_o (h : a < len) (hc : c a = 111 ∨ c a = 115) : ordP c len a = match hrP c len (a + 1) with
    | .inl e => .inl e
    | .inr (b, x, y, z) => .inr (b, c a, x, y, z) := by
  unfold ordP hrP
  rw [if_pos h, if_neg (by omega), if_neg (by omega), if_neg (by omega), if_pos hc]
  rcases numP c len 1 (a + 1) with e | ⟨b, x⟩
  · rfl
  · dsimp only
    rcases chP c len 58 b with e | b
    · rfl
    · dsimp only
      rcases numP c len 3 b with e | ⟨b, y⟩
      · rfl
      · dsimp only
        rcases chP c len 45 b with e | b
        · rfl
        · dsimp only
          rcases numP c len 3 b with e | ⟨b, z⟩
          · rfl
          · rfl
theorem ordP_h (h : a < len) (hc : c a = 104 ∨ c a = 105) : ordP c len a = match numP c len 3 (a + 1) with
    | .inl e => .inl e
    | .inr (b, x) => .inr (b, c a, x, 0, 0) := by
  unfold ordP
  rw [if_pos h, if_pos hc]
  rcases numP c len 3 (a + 1) with e | ⟨b, x⟩ <;> rfl
theorem ordP_r (h : a < len) (hc : c a = 114) : ordP c len a = match numP c len 1 (a + 1) with
    | .inl e => .inl e
    | .inr (b, x) => .inr (b, c a, x, 0, 0) := by
  unfold ordP
  rw [if_pos h, if_neg (by omega), if_pos hc]
  rcases numP c len 1 (a + 1) with e | ⟨b, x⟩ <;> rfl
theorem ordP_no (hc : ¬ (a < len ∧ (c a = 99 ∨ c a = 104 ∨ c a = 105 ∨ c a = 111 ∨ c a = 114 ∨ c a = 115))) : ordP c len a = .inl a := by
  unfold ordP
  by_cases h : a < len
  · rw [if_pos h, if_neg (by omega), if_neg (by omega), if_neg (by omega), if_neg (by omega)]
  · rw [if_neg h]
theorem c_compl (hI : INC σ c len) (ha : a ≤ len) (hi : i < 20) (F : ∀ e od', cmP c len a = .inl e → K (.inl (some (.int (jI 0)))) (MM Ln (TK σ e n od') lo db))
    (H : ∀ b x y, cmP c len a = .inr (b, x, y) → x < 1000 → y < 1000 → K (.inl (some (.int (jI 1)))) (MM Ln (TK σ b n (u2 (u2 od i 1 (jI x)) i 2 (jI y))) lo db)) :
    Ev 68 (0, [.ref 344, .ref (oA i)], [], 0, 0, MM Ln (TK σ a n od) lo db) K := by
  have n1 : (jI 1 = jI 0) = False := jI_nz (by decide) (by decide)
  unfold cmP at F H
  simp (disch := omega) only [s_68_0, s_68_1, s_68_2, s_68_3, r_68_3, s_68_6, s_68_9, s_68_10, s_68_13, s_68_14, s_68_17, s_68_18, s_68_20, r_68_20, s_68_23, s_68_26, s_68_27, s_68_28, s_68_29, s_68_30, s_68_31, r_68_31, s_68_34, s_68_37, s_68_38, s_68_41, s_68_42, s_68_45, s_68_46, s_68_49, s_68_50, jI_mul, jI_add, jI_tnc, jI_ixT, true_and, and_true, bZ_0, bZ_1, bZ_b, jI_nz, jI_div, jI_rem, jI_mod, Nat.add_zero, bI_if, not_false_iff, if_true, if_false, eq_self]
  refine c_number hI ha (by decide) (by decide) (fun e he hel => ?_) (fun b x he hx => ?_)
  · rw [he] at F
    simp (disch := omega) only [s_68_0, s_68_1, s_68_2, s_68_3, r_68_3, s_68_6, s_68_9, s_68_10, s_68_13, s_68_14, s_68_17, s_68_18, s_68_20, r_68_20, s_68_23, s_68_26, s_68_27, s_68_28, s_68_29, s_68_30, s_68_31, r_68_31, s_68_34, s_68_37, s_68_38, s_68_41, s_68_42, s_68_45, s_68_46, s_68_49, s_68_50, jI_mul, jI_add, jI_tnc, jI_ixT, true_and, and_true, bZ_0, bZ_1, bZ_b, jI_nz, jI_div, jI_rem, jI_mod, Nat.add_zero, bI_if, not_false_iff, if_true, if_false, eq_self, TK_o, TK_uo, u2_at]
    exact F e _ rfl
  · have gb := numP_ge (by decide) he
    rw [he] at F H
    dsimp only at F H
    have nx : (jI x = jm1) = False := eq_false (jI_ne1 (by omega))
    simp (disch := omega) only [s_68_0, s_68_1, s_68_2, s_68_3, r_68_3, s_68_6, s_68_9, s_68_10, s_68_13, s_68_14, s_68_17, s_68_18, s_68_20, r_68_20, s_68_23, s_68_26, s_68_27, s_68_28, s_68_29, s_68_30, s_68_31, r_68_31, s_68_34, s_68_37, s_68_38, s_68_41, s_68_42, s_68_45, s_68_46, s_68_49, s_68_50, jI_mul, jI_add, jI_tnc, jI_ixT, true_and, and_true, bZ_0, bZ_1, bZ_b, jI_nz, jI_div, jI_rem, jI_mod, Nat.add_zero, bI_if, not_false_iff, if_true, if_false, eq_self, TK_o, TK_uo, u2_at, nx, c_sign hI gb.2]
    unfold chP at F H
    by_cases q : b < len ∧ c b = 62
    · rw [if_pos q] at F H ⊢
      dsimp only at F H
      try simp (disch := omega) only [s_68_0, s_68_1, s_68_2, s_68_3, r_68_3, s_68_6, s_68_9, s_68_10, s_68_13, s_68_14, s_68_17, s_68_18, s_68_20, r_68_20, s_68_23, s_68_26, s_68_27, s_68_28, s_68_29, s_68_30, s_68_31, r_68_31, s_68_34, s_68_37, s_68_38, s_68_41, s_68_42, s_68_45, s_68_46, s_68_49, s_68_50, jI_mul, jI_add, jI_tnc, jI_ixT, true_and, and_true, bZ_0, bZ_1, bZ_b, jI_nz, jI_div, jI_rem, jI_mod, Nat.add_zero, bI_if, not_false_iff, if_true, if_false, eq_self, n1]
      refine c_number hI (by omega) (by decide) (by decide) (fun e he hel => ?_) (fun b' y he hy => ?_)
      · rw [he] at F
        simp (disch := omega) only [s_68_0, s_68_1, s_68_2, s_68_3, r_68_3, s_68_6, s_68_9, s_68_10, s_68_13, s_68_14, s_68_17, s_68_18, s_68_20, r_68_20, s_68_23, s_68_26, s_68_27, s_68_28, s_68_29, s_68_30, s_68_31, r_68_31, s_68_34, s_68_37, s_68_38, s_68_41, s_68_42, s_68_45, s_68_46, s_68_49, s_68_50, jI_mul, jI_add, jI_tnc, jI_ixT, true_and, and_true, bZ_0, bZ_1, bZ_b, jI_nz, jI_div, jI_rem, jI_mod, Nat.add_zero, bI_if, not_false_iff, if_true, if_false, eq_self, TK_o, TK_uo, u2_at]
        exact F e _ rfl
      · rw [he] at H
        have ny : (jI y = jm1) = False := eq_false (jI_ne1 (by omega))
        simp (disch := omega) only [s_68_0, s_68_1, s_68_2, s_68_3, r_68_3, s_68_6, s_68_9, s_68_10, s_68_13, s_68_14, s_68_17, s_68_18, s_68_20, r_68_20, s_68_23, s_68_26, s_68_27, s_68_28, s_68_29, s_68_30, s_68_31, r_68_31, s_68_34, s_68_37, s_68_38, s_68_41, s_68_42, s_68_45, s_68_46, s_68_49, s_68_50, jI_mul, jI_add, jI_tnc, jI_ixT, true_and, and_true, bZ_0, bZ_1, bZ_b, jI_nz, jI_div, jI_rem, jI_mod, Nat.add_zero, bI_if, not_false_iff, if_true, if_false, eq_self, TK_o, TK_uo, u2_at, ny]
        exact H b' x y rfl hx hy
    · rw [if_neg q] at F H ⊢
      try simp (disch := omega) only [s_68_0, s_68_1, s_68_2, s_68_3, r_68_3, s_68_6, s_68_9, s_68_10, s_68_13, s_68_14, s_68_17, s_68_18, s_68_20, r_68_20, s_68_23, s_68_26, s_68_27, s_68_28, s_68_29, s_68_30, s_68_31, r_68_31, s_68_34, s_68_37, s_68_38, s_68_41, s_68_42, s_68_45, s_68_46, s_68_49, s_68_50, jI_mul, jI_add, jI_tnc, jI_ixT, true_and, and_true, bZ_0, bZ_1, bZ_b, jI_nz, jI_div, jI_rem, jI_mod, Nat.add_zero, bI_if, not_false_iff, if_true, if_false, eq_self]
      exact F b _ rfl
theorem c_hrs (hI : INC σ c len) (ha : a ≤ len) (hi : i < 20) (F : ∀ e od', hrP c len a = .inl e → K (.inl (some (.int (jI 0)))) (MM Ln (TK σ e n od') lo db))
    (H : ∀ b x y z, hrP c len a = .inr (b, x, y, z) → x < 1000 → y < 1000 → z < 1000 → K (.inl (some (.int (jI 1)))) (MM Ln (TK σ b n (u2 (u2 (u2 od i 1 (jI x)) i 2 (jI y)) i 3 (jI z))) lo db)) :
    Ev 67 (0, [.ref 344, .ref (oA i)], [], 0, 0, MM Ln (TK σ a n od) lo db) K := by
  have n1 : (jI 1 = jI 0) = False := jI_nz (by decide) (by decide)
  unfold hrP at F H
  simp (disch := omega) only [s_67_0, s_67_1, s_67_2, s_67_3, r_67_3, s_67_6, s_67_9, s_67_10, s_67_13, s_67_14, s_67_17, s_67_18, s_67_20, r_67_20, s_67_23, s_67_26, s_67_27, s_67_28, s_67_29, s_67_30, s_67_31, r_67_31, s_67_34, s_67_37, s_67_38, s_67_41, s_67_42, s_67_45, s_67_46, s_67_48, r_67_48, s_67_51, s_67_54, s_67_55, s_67_56, s_67_57, s_67_58, s_67_59, r_67_59, s_67_62, s_67_65, s_67_66, s_67_69, s_67_70, s_67_73, s_67_74, s_67_77, s_67_78, jI_mul, jI_add, jI_tnc, jI_ixT, true_and, and_true, bZ_0, bZ_1, bZ_b, jI_nz, jI_div, jI_rem, jI_mod, Nat.add_zero, bI_if, not_false_iff, if_true, if_false, eq_self]
  refine c_number hI ha (by decide) (by decide) (fun e he hel => ?_) (fun b x he hx => ?_)
  · rw [he] at F
    simp (disch := omega) only [s_67_0, s_67_1, s_67_2, s_67_3, r_67_3, s_67_6, s_67_9, s_67_10, s_67_13, s_67_14, s_67_17, s_67_18, s_67_20, r_67_20, s_67_23, s_67_26, s_67_27, s_67_28, s_67_29, s_67_30, s_67_31, r_67_31, s_67_34, s_67_37, s_67_38, s_67_41, s_67_42, s_67_45, s_67_46, s_67_48, r_67_48, s_67_51, s_67_54, s_67_55, s_67_56, s_67_57, s_67_58, s_67_59, r_67_59, s_67_62, s_67_65, s_67_66, s_67_69, s_67_70, s_67_73, s_67_74, s_67_77, s_67_78, jI_mul, jI_add, jI_tnc, jI_ixT, true_and, and_true, bZ_0, bZ_1, bZ_b, jI_nz, jI_div, jI_rem, jI_mod, Nat.add_zero, bI_if, not_false_iff, if_true, if_false, eq_self, TK_o, TK_uo, u2_at]
    exact F e _ rfl
  · have gb := numP_ge (by decide) he
    rw [he] at F H
    dsimp only at F H
    have nx : (jI x = jm1) = False := eq_false (jI_ne1 (by omega))
    simp (disch := omega) only [s_67_0, s_67_1, s_67_2, s_67_3, r_67_3, s_67_6, s_67_9, s_67_10, s_67_13, s_67_14, s_67_17, s_67_18, s_67_20, r_67_20, s_67_23, s_67_26, s_67_27, s_67_28, s_67_29, s_67_30, s_67_31, r_67_31, s_67_34, s_67_37, s_67_38, s_67_41, s_67_42, s_67_45, s_67_46, s_67_48, r_67_48, s_67_51, s_67_54, s_67_55, s_67_56, s_67_57, s_67_58, s_67_59, r_67_59, s_67_62, s_67_65, s_67_66, s_67_69, s_67_70, s_67_73, s_67_74, s_67_77, s_67_78, jI_mul, jI_add, jI_tnc, jI_ixT, true_and, and_true, bZ_0, bZ_1, bZ_b, jI_nz, jI_div, jI_rem, jI_mod, Nat.add_zero, bI_if, not_false_iff, if_true, if_false, eq_self, TK_o, TK_uo, u2_at, nx, c_sign hI gb.2]
    unfold chP at F H
    by_cases q : b < len ∧ c b = 58
    · rw [if_pos q] at F H ⊢
      dsimp only at F H
      try simp (disch := omega) only [s_67_0, s_67_1, s_67_2, s_67_3, r_67_3, s_67_6, s_67_9, s_67_10, s_67_13, s_67_14, s_67_17, s_67_18, s_67_20, r_67_20, s_67_23, s_67_26, s_67_27, s_67_28, s_67_29, s_67_30, s_67_31, r_67_31, s_67_34, s_67_37, s_67_38, s_67_41, s_67_42, s_67_45, s_67_46, s_67_48, r_67_48, s_67_51, s_67_54, s_67_55, s_67_56, s_67_57, s_67_58, s_67_59, r_67_59, s_67_62, s_67_65, s_67_66, s_67_69, s_67_70, s_67_73, s_67_74, s_67_77, s_67_78, jI_mul, jI_add, jI_tnc, jI_ixT, true_and, and_true, bZ_0, bZ_1, bZ_b, jI_nz, jI_div, jI_rem, jI_mod, Nat.add_zero, bI_if, not_false_iff, if_true, if_false, eq_self, n1]
      refine c_number hI (by omega) (by decide) (by decide) (fun e he hel => ?_) (fun b' y he hy => ?_)
      · rw [he] at F
        simp (disch := omega) only [s_67_0, s_67_1, s_67_2, s_67_3, r_67_3, s_67_6, s_67_9, s_67_10, s_67_13, s_67_14, s_67_17, s_67_18, s_67_20, r_67_20, s_67_23, s_67_26, s_67_27, s_67_28, s_67_29, s_67_30, s_67_31, r_67_31, s_67_34, s_67_37, s_67_38, s_67_41, s_67_42, s_67_45, s_67_46, s_67_48, r_67_48, s_67_51, s_67_54, s_67_55, s_67_56, s_67_57, s_67_58, s_67_59, r_67_59, s_67_62, s_67_65, s_67_66, s_67_69, s_67_70, s_67_73, s_67_74, s_67_77, s_67_78, jI_mul, jI_add, jI_tnc, jI_ixT, true_and, and_true, bZ_0, bZ_1, bZ_b, jI_nz, jI_div, jI_rem, jI_mod, Nat.add_zero, bI_if, not_false_iff, if_true, if_false, eq_self, TK_o, TK_uo, u2_at]
        exact F e _ rfl
      · have gb' := numP_ge (by decide) he
        rw [he] at F H
        dsimp only at F H
        have ny : (jI y = jm1) = False := eq_false (jI_ne1 (by omega))
        simp (disch := omega) only [s_67_0, s_67_1, s_67_2, s_67_3, r_67_3, s_67_6, s_67_9, s_67_10, s_67_13, s_67_14, s_67_17, s_67_18, s_67_20, r_67_20, s_67_23, s_67_26, s_67_27, s_67_28, s_67_29, s_67_30, s_67_31, r_67_31, s_67_34, s_67_37, s_67_38, s_67_41, s_67_42, s_67_45, s_67_46, s_67_48, r_67_48, s_67_51, s_67_54, s_67_55, s_67_56, s_67_57, s_67_58, s_67_59, r_67_59, s_67_62, s_67_65, s_67_66, s_67_69, s_67_70, s_67_73, s_67_74, s_67_77, s_67_78, jI_mul, jI_add, jI_tnc, jI_ixT, true_and, and_true, bZ_0, bZ_1, bZ_b, jI_nz, jI_div, jI_rem, jI_mod, Nat.add_zero, bI_if, not_false_iff, if_true, if_false, eq_self, TK_o, TK_uo, u2_at, ny, c_sign hI gb'.2]
        by_cases q2 : b' < len ∧ c b' = 45
        · rw [if_pos q2] at F H ⊢
          dsimp only at F H
          try simp (disch := omega) only [s_67_0, s_67_1, s_67_2, s_67_3, r_67_3, s_67_6, s_67_9, s_67_10, s_67_13, s_67_14, s_67_17, s_67_18, s_67_20, r_67_20, s_67_23, s_67_26, s_67_27, s_67_28, s_67_29, s_67_30, s_67_31, r_67_31, s_67_34, s_67_37, s_67_38, s_67_41, s_67_42, s_67_45, s_67_46, s_67_48, r_67_48, s_67_51, s_67_54, s_67_55, s_67_56, s_67_57, s_67_58, s_67_59, r_67_59, s_67_62, s_67_65, s_67_66, s_67_69, s_67_70, s_67_73, s_67_74, s_67_77, s_67_78, jI_mul, jI_add, jI_tnc, jI_ixT, true_and, and_true, bZ_0, bZ_1, bZ_b, jI_nz, jI_div, jI_rem, jI_mod, Nat.add_zero, bI_if, not_false_iff, if_true, if_false, eq_self, n1]
          refine c_number hI (by omega) (by decide) (by decide) (fun e he hel => ?_) (fun b'' z he hz => ?_)
          · rw [he] at F
            simp (disch := omega) only [s_67_0, s_67_1, s_67_2, s_67_3, r_67_3, s_67_6, s_67_9, s_67_10, s_67_13, s_67_14, s_67_17, s_67_18, s_67_20, r_67_20, s_67_23, s_67_26, s_67_27, s_67_28, s_67_29, s_67_30, s_67_31, r_67_31, s_67_34, s_67_37, s_67_38, s_67_41, s_67_42, s_67_45, s_67_46, s_67_48, r_67_48, s_67_51, s_67_54, s_67_55, s_67_56, s_67_57, s_67_58, s_67_59, r_67_59, s_67_62, s_67_65, s_67_66, s_67_69, s_67_70, s_67_73, s_67_74, s_67_77, s_67_78, jI_mul, jI_add, jI_tnc, jI_ixT, true_and, and_true, bZ_0, bZ_1, bZ_b, jI_nz, jI_div, jI_rem, jI_mod, Nat.add_zero, bI_if, not_false_iff, if_true, if_false, eq_self, TK_o, TK_uo, u2_at]
            exact F e _ rfl
          · rw [he] at H
            have nz : (jI z = jm1) = False := eq_false (jI_ne1 (by omega))
            simp (disch := omega) only [s_67_0, s_67_1, s_67_2, s_67_3, r_67_3, s_67_6, s_67_9, s_67_10, s_67_13, s_67_14, s_67_17, s_67_18, s_67_20, r_67_20, s_67_23, s_67_26, s_67_27, s_67_28, s_67_29, s_67_30, s_67_31, r_67_31, s_67_34, s_67_37, s_67_38, s_67_41, s_67_42, s_67_45, s_67_46, s_67_48, r_67_48, s_67_51, s_67_54, s_67_55, s_67_56, s_67_57, s_67_58, s_67_59, r_67_59, s_67_62, s_67_65, s_67_66, s_67_69, s_67_70, s_67_73, s_67_74, s_67_77, s_67_78, jI_mul, jI_add, jI_tnc, jI_ixT, true_and, and_true, bZ_0, bZ_1, bZ_b, jI_nz, jI_div, jI_rem, jI_mod, Nat.add_zero, bI_if, not_false_iff, if_true, if_false, eq_self, TK_o, TK_uo, u2_at, nz]
            exact H b'' x y z rfl hx hy hz
        · rw [if_neg q2] at F H ⊢
          try simp (disch := omega) only [s_67_0, s_67_1, s_67_2, s_67_3, r_67_3, s_67_6, s_67_9, s_67_10, s_67_13, s_67_14, s_67_17, s_67_18, s_67_20, r_67_20, s_67_23, s_67_26, s_67_27, s_67_28, s_67_29, s_67_30, s_67_31, r_67_31, s_67_34, s_67_37, s_67_38, s_67_41, s_67_42, s_67_45, s_67_46, s_67_48, r_67_48, s_67_51, s_67_54, s_67_55, s_67_56, s_67_57, s_67_58, s_67_59, r_67_59, s_67_62, s_67_65, s_67_66, s_67_69, s_67_70, s_67_73, s_67_74, s_67_77, s_67_78, jI_mul, jI_add, jI_tnc, jI_ixT, true_and, and_true, bZ_0, bZ_1, bZ_b, jI_nz, jI_div, jI_rem, jI_mod, Nat.add_zero, bI_if, not_false_iff, if_true, if_false, eq_self]
          exact F b' _ rfl
    · rw [if_neg q] at F H ⊢
      try simp (disch := omega) only [s_67_0, s_67_1, s_67_2, s_67_3, r_67_3, s_67_6, s_67_9, s_67_10, s_67_13, s_67_14, s_67_17, s_67_18, s_67_20, r_67_20, s_67_23, s_67_26, s_67_27, s_67_28, s_67_29, s_67_30, s_67_31, r_67_31, s_67_34, s_67_37, s_67_38, s_67_41, s_67_42, s_67_45, s_67_46, s_67_48, r_67_48, s_67_51, s_67_54, s_67_55, s_67_56, s_67_57, s_67_58, s_67_59, r_67_59, s_67_62, s_67_65, s_67_66, s_67_69, s_67_70, s_67_73, s_67_74, s_67_77, s_67_78, jI_mul, jI_add, jI_tnc, jI_ixT, true_and, and_true, bZ_0, bZ_1, bZ_b, jI_nz, jI_div, jI_rem, jI_mod, Nat.add_zero, bI_if, not_false_iff, if_true, if_false, eq_self]
      exact F b _ rfl
theorem tsw_no {v : Nat} (hv : v < 65536) (h : ¬ (v = 99 ∨ v = 104 ∨ v = 105 ∨ v = 111 ∨ v = 114 ∨ v = 115)) : tsw 30 180 99 115 #[98, 180, 180, 180, 180, 114, 114, 180, 180, 180, 180, 180, 82, 180, 180, 147, 82] (jI v).toInt = some 210 := by
  rw [jI_toInt (by omega)]
  by_cases h1 : v < 99 ∨ 115 < v
  · unfold tsw
    rw [if_pos (by omega)]
    rfl
  · have : v = 100 ∨ v = 101 ∨ v = 102 ∨ v = 103 ∨ v = 106 ∨ v = 107 ∨ v = 108 ∨ v = 109 ∨ v = 110 ∨ v = 112 ∨ v = 113 := by omega
    rcases this with rfl | rfl | rfl | rfl | rfl | rfl | rfl | rfl | rfl | rfl | rfl <;> decide +kernel
theorem c_order (hI : INC σ c len) (ha : a ≤ len) (hi : i < 20) (F : ∀ e od', ordP c len a = .inl e → K (.inl (some (.int (jI 0)))) (MM Ln (TK σ e n od') lo db))
    (H : ∀ b r od', ordP c len a = .inr (b, r) → RcB r → (∀ j, j ≠ i → od' j = od j) → odR od' i r → K (.inl (some (.int (jI 1)))) (MM Ln (TK σ b n od') lo db)) :
    Ev 66 (0, [.ref 344, .ref (oA i)], [], 0, 0, MM Ln (TK σ a n od) lo db) K := by
  have hI' := hI
  obtain ⟨i1, i2, i3⟩ := hI
  by_cases h : a < len
  · obtain ⟨e, hc⟩ := i3 a h
    have fr : ∀ {k v} {q : Nat → Nat → Int32}, (∀ j, j ≠ i → q j = od j) → ∀ j, j ≠ i → u2 q i k v j = od j := fun {k v q} hq j hj => by
      rw [← hq j hj]; funext w; exact u2_na hj
    simp (disch := omega) only [s_66_0, s_66_1, s_66_4, s_66_5, s_66_8, s_66_11, s_66_12, s_66_13, s_66_14, s_66_15, s_66_18, s_66_19, s_66_22, s_66_23, s_66_26, s_66_27, s_66_112, s_66_113, s_66_114, s_66_117, s_66_118, s_66_119, s_66_122, s_66_123, s_66_124, r_66_124, s_66_127, s_66_128, s_66_129, s_66_130, s_66_133, s_66_134, s_66_135, s_66_138, s_66_139, s_66_140, r_66_140, s_66_143, s_66_144, s_66_145, s_66_146, s_66_149, s_66_150, s_66_151, s_66_154, s_66_155, s_66_156, s_66_157, r_66_157, s_66_160, s_66_163, s_66_164, s_66_167, s_66_168, s_66_171, s_66_172, s_66_175, s_66_176, s_66_177, s_66_178, s_66_179, s_66_182, s_66_183, s_66_184, s_66_187, s_66_188, s_66_189, s_66_190, r_66_190, s_66_193, s_66_196, s_66_197, s_66_200, s_66_201, s_66_204, s_66_205, s_66_208, s_66_209, s_66_210, s_66_211, jI_mul, jI_add, jI_tnc, jI_ixT, true_and, and_true, bZ_0, bZ_1, bZ_b, jI_nz, jI_div, jI_rem, jI_mod, Nat.add_zero, bI_if, not_false_iff, if_true, if_false, eq_self, TK_4, TK_2, i2, jI_lt, TK_s, e, TK_uo, TK_o, u2_at]
    rw [if_pos h]
    have fr0 : ∀ j, j ≠ i → u2 od i 0 (jI (c a)) j = od j := fr (fun _ _ => rfl)
    have at0 : u2 od i 0 (jI (c a)) i 0 = jI (c a) := u2_at
    by_cases q1 : c a = 104 ∨ c a = 105
    · rw [ordP_h h q1] at F H
      have : Ev 66 (144, [.ref 344, .ref (oA i)], [], 0, 0, MM Ln (TK σ a n (u2 od i 0 (jI (c a)))) lo db) K := by
        simp (disch := omega) only [s_66_0, s_66_1, s_66_4, s_66_5, s_66_8, s_66_11, s_66_12, s_66_13, s_66_14, s_66_15, s_66_18, s_66_19, s_66_22, s_66_23, s_66_26, s_66_27, s_66_30_99, s_66_30_100, s_66_30_101, s_66_30_102, s_66_30_103, s_66_30_104, s_66_30_105, s_66_30_106, s_66_30_107, s_66_30_108, s_66_30_109, s_66_30_110, s_66_30_111, s_66_30_112, s_66_30_113, s_66_30_114, s_66_30_115, s_66_30_d, s_66_112, s_66_113, s_66_114, s_66_117, s_66_118, s_66_119, s_66_122, s_66_123, s_66_124, r_66_124, s_66_127, s_66_128, s_66_129, s_66_130, s_66_133, s_66_134, s_66_135, s_66_138, s_66_139, s_66_140, r_66_140, s_66_143, s_66_144, s_66_145, s_66_146, s_66_149, s_66_150, s_66_151, s_66_154, s_66_155, s_66_156, s_66_157, r_66_157, s_66_160, s_66_163, s_66_164, s_66_167, s_66_168, s_66_171, s_66_172, s_66_175, s_66_176, s_66_177, s_66_178, s_66_179, s_66_182, s_66_183, s_66_184, s_66_187, s_66_188, s_66_189, s_66_190, r_66_190, s_66_193, s_66_196, s_66_197, s_66_200, s_66_201, s_66_204, s_66_205, s_66_208, s_66_209, s_66_210, s_66_211, jI_mul, jI_add, jI_tnc, jI_ixT, true_and, and_true, bZ_0, bZ_1, bZ_b, jI_nz, jI_div, jI_rem, jI_mod, Nat.add_zero, bI_if, not_false_iff, if_true, if_false, eq_self, TK_4, TK_u4]
        refine c_number hI' (by omega) (by decide) (by decide) (fun e he hel => ?_) (fun b x he hx => ?_)
        · rw [he] at F
          simp (disch := omega) only [s_66_0, s_66_1, s_66_4, s_66_5, s_66_8, s_66_11, s_66_12, s_66_13, s_66_14, s_66_15, s_66_18, s_66_19, s_66_22, s_66_23, s_66_26, s_66_27, s_66_30_99, s_66_30_100, s_66_30_101, s_66_30_102, s_66_30_103, s_66_30_104, s_66_30_105, s_66_30_106, s_66_30_107, s_66_30_108, s_66_30_109, s_66_30_110, s_66_30_111, s_66_30_112, s_66_30_113, s_66_30_114, s_66_30_115, s_66_30_d, s_66_112, s_66_113, s_66_114, s_66_117, s_66_118, s_66_119, s_66_122, s_66_123, s_66_124, r_66_124, s_66_127, s_66_128, s_66_129, s_66_130, s_66_133, s_66_134, s_66_135, s_66_138, s_66_139, s_66_140, r_66_140, s_66_143, s_66_144, s_66_145, s_66_146, s_66_149, s_66_150, s_66_151, s_66_154, s_66_155, s_66_156, s_66_157, r_66_157, s_66_160, s_66_163, s_66_164, s_66_167, s_66_168, s_66_171, s_66_172, s_66_175, s_66_176, s_66_177, s_66_178, s_66_179, s_66_182, s_66_183, s_66_184, s_66_187, s_66_188, s_66_189, s_66_190, r_66_190, s_66_193, s_66_196, s_66_197, s_66_200, s_66_201, s_66_204, s_66_205, s_66_208, s_66_209, s_66_210, s_66_211, jI_mul, jI_add, jI_tnc, jI_ixT, true_and, and_true, bZ_0, bZ_1, bZ_b, jI_nz, jI_div, jI_rem, jI_mod, Nat.add_zero, bI_if, not_false_iff, if_true, if_false, eq_self, TK_o, TK_uo, u2_at]
          exact F e _ rfl
        · rw [he] at H
          have nx : (jI x = jm1) = False := eq_false (jI_ne1 (by omega))
          simp (disch := omega) only [s_66_0, s_66_1, s_66_4, s_66_5, s_66_8, s_66_11, s_66_12, s_66_13, s_66_14, s_66_15, s_66_18, s_66_19, s_66_22, s_66_23, s_66_26, s_66_27, s_66_30_99, s_66_30_100, s_66_30_101, s_66_30_102, s_66_30_103, s_66_30_104, s_66_30_105, s_66_30_106, s_66_30_107, s_66_30_108, s_66_30_109, s_66_30_110, s_66_30_111, s_66_30_112, s_66_30_113, s_66_30_114, s_66_30_115, s_66_30_d, s_66_112, s_66_113, s_66_114, s_66_117, s_66_118, s_66_119, s_66_122, s_66_123, s_66_124, r_66_124, s_66_127, s_66_128, s_66_129, s_66_130, s_66_133, s_66_134, s_66_135, s_66_138, s_66_139, s_66_140, r_66_140, s_66_143, s_66_144, s_66_145, s_66_146, s_66_149, s_66_150, s_66_151, s_66_154, s_66_155, s_66_156, s_66_157, r_66_157, s_66_160, s_66_163, s_66_164, s_66_167, s_66_168, s_66_171, s_66_172, s_66_175, s_66_176, s_66_177, s_66_178, s_66_179, s_66_182, s_66_183, s_66_184, s_66_187, s_66_188, s_66_189, s_66_190, r_66_190, s_66_193, s_66_196, s_66_197, s_66_200, s_66_201, s_66_204, s_66_205, s_66_208, s_66_209, s_66_210, s_66_211, jI_mul, jI_add, jI_tnc, jI_ixT, true_and, and_true, bZ_0, bZ_1, bZ_b, jI_nz, jI_div, jI_rem, jI_mod, Nat.add_zero, bI_if, not_false_iff, if_true, if_false, eq_self, TK_o, TK_uo, u2_at, nx]
          refine H b _ _ rfl ⟨by dsimp only; omega, hx, Nat.succ_pos _, Nat.succ_pos _⟩ (fr fr0) ⟨?_, u2_at, fun hh => ?_, fun hh => ?_⟩
          · rw [u2_nk (by decide)]; exact at0
          · exact absurd hh (by dsimp only; omega)
          · exact absurd hh (by dsimp only; omega)
      rcases q1 with q1 | q1
      · rw [q1, s_66_30_104, ← q1]; exact this
      · rw [q1, s_66_30_105, ← q1]; exact this
    · by_cases q2 : c a = 114
      · rw [ordP_r h q2] at F H
        have : Ev 66 (177, [.ref 344, .ref (oA i)], [], 0, 0, MM Ln (TK σ a n (u2 od i 0 (jI (c a)))) lo db) K := by
          simp (disch := omega) only [s_66_0, s_66_1, s_66_4, s_66_5, s_66_8, s_66_11, s_66_12, s_66_13, s_66_14, s_66_15, s_66_18, s_66_19, s_66_22, s_66_23, s_66_26, s_66_27, s_66_30_99, s_66_30_100, s_66_30_101, s_66_30_102, s_66_30_103, s_66_30_104, s_66_30_105, s_66_30_106, s_66_30_107, s_66_30_108, s_66_30_109, s_66_30_110, s_66_30_111, s_66_30_112, s_66_30_113, s_66_30_114, s_66_30_115, s_66_30_d, s_66_112, s_66_113, s_66_114, s_66_117, s_66_118, s_66_119, s_66_122, s_66_123, s_66_124, r_66_124, s_66_127, s_66_128, s_66_129, s_66_130, s_66_133, s_66_134, s_66_135, s_66_138, s_66_139, s_66_140, r_66_140, s_66_143, s_66_144, s_66_145, s_66_146, s_66_149, s_66_150, s_66_151, s_66_154, s_66_155, s_66_156, s_66_157, r_66_157, s_66_160, s_66_163, s_66_164, s_66_167, s_66_168, s_66_171, s_66_172, s_66_175, s_66_176, s_66_177, s_66_178, s_66_179, s_66_182, s_66_183, s_66_184, s_66_187, s_66_188, s_66_189, s_66_190, r_66_190, s_66_193, s_66_196, s_66_197, s_66_200, s_66_201, s_66_204, s_66_205, s_66_208, s_66_209, s_66_210, s_66_211, jI_mul, jI_add, jI_tnc, jI_ixT, true_and, and_true, bZ_0, bZ_1, bZ_b, jI_nz, jI_div, jI_rem, jI_mod, Nat.add_zero, bI_if, not_false_iff, if_true, if_false, eq_self, TK_4, TK_u4]
          refine c_number hI' (by omega) (by decide) (by decide) (fun e he hel => ?_) (fun b x he hx => ?_)
          · rw [he] at F
            simp (disch := omega) only [s_66_0, s_66_1, s_66_4, s_66_5, s_66_8, s_66_11, s_66_12, s_66_13, s_66_14, s_66_15, s_66_18, s_66_19, s_66_22, s_66_23, s_66_26, s_66_27, s_66_30_99, s_66_30_100, s_66_30_101, s_66_30_102, s_66_30_103, s_66_30_104, s_66_30_105, s_66_30_106, s_66_30_107, s_66_30_108, s_66_30_109, s_66_30_110, s_66_30_111, s_66_30_112, s_66_30_113, s_66_30_114, s_66_30_115, s_66_30_d, s_66_112, s_66_113, s_66_114, s_66_117, s_66_118, s_66_119, s_66_122, s_66_123, s_66_124, r_66_124, s_66_127, s_66_128, s_66_129, s_66_130, s_66_133, s_66_134, s_66_135, s_66_138, s_66_139, s_66_140, r_66_140, s_66_143, s_66_144, s_66_145, s_66_146, s_66_149, s_66_150, s_66_151, s_66_154, s_66_155, s_66_156, s_66_157, r_66_157, s_66_160, s_66_163, s_66_164, s_66_167, s_66_168, s_66_171, s_66_172, s_66_175, s_66_176, s_66_177, s_66_178, s_66_179, s_66_182, s_66_183, s_66_184, s_66_187, s_66_188, s_66_189, s_66_190, r_66_190, s_66_193, s_66_196, s_66_197, s_66_200, s_66_201, s_66_204, s_66_205, s_66_208, s_66_209, s_66_210, s_66_211, jI_mul, jI_add, jI_tnc, jI_ixT, true_and, and_true, bZ_0, bZ_1, bZ_b, jI_nz, jI_div, jI_rem, jI_mod, Nat.add_zero, bI_if, not_false_iff, if_true, if_false, eq_self, TK_o, TK_uo, u2_at]
            exact F e _ rfl
          · rw [he] at H
            have nx : (jI x = jm1) = False := eq_false (jI_ne1 (by omega))
            simp (disch := omega) only [s_66_0, s_66_1, s_66_4, s_66_5, s_66_8, s_66_11, s_66_12, s_66_13, s_66_14, s_66_15, s_66_18, s_66_19, s_66_22, s_66_23, s_66_26, s_66_27, s_66_30_99, s_66_30_100, s_66_30_101, s_66_30_102, s_66_30_103, s_66_30_104, s_66_30_105, s_66_30_106, s_66_30_107, s_66_30_108, s_66_30_109, s_66_30_110, s_66_30_111, s_66_30_112, s_66_30_113, s_66_30_114, s_66_30_115, s_66_30_d, s_66_112, s_66_113, s_66_114, s_66_117, s_66_118, s_66_119, s_66_122, s_66_123, s_66_124, r_66_124, s_66_127, s_66_128, s_66_129, s_66_130, s_66_133, s_66_134, s_66_135, s_66_138, s_66_139, s_66_140, r_66_140, s_66_143, s_66_144, s_66_145, s_66_146, s_66_149, s_66_150, s_66_151, s_66_154, s_66_155, s_66_156, s_66_157, r_66_157, s_66_160, s_66_163, s_66_164, s_66_167, s_66_168, s_66_171, s_66_172, s_66_175, s_66_176, s_66_177, s_66_178, s_66_179, s_66_182, s_66_183, s_66_184, s_66_187, s_66_188, s_66_189, s_66_190, r_66_190, s_66_193, s_66_196, s_66_197, s_66_200, s_66_201, s_66_204, s_66_205, s_66_208, s_66_209, s_66_210, s_66_211, jI_mul, jI_add, jI_tnc, jI_ixT, true_and, and_true, bZ_0, bZ_1, bZ_b, jI_nz, jI_div, jI_rem, jI_mod, Nat.add_zero, bI_if, not_false_iff, if_true, if_false, eq_self, TK_o, TK_uo, u2_at, nx]
            refine H b _ _ rfl ⟨by dsimp only; omega, hx, Nat.succ_pos _, Nat.succ_pos _⟩ (fr fr0) ⟨?_, u2_at, fun hh => ?_, fun hh => ?_⟩
            · rw [u2_nk (by decide)]; exact at0
            · exact absurd hh (by dsimp only; omega)
            · exact absurd hh (by dsimp only; omega)
        rw [q2, s_66_30_114, ← q2]; exact this
      · by_cases q3 : c a = 99
        · rw [ordP_c h q3] at F H
          have : Ev 66 (128, [.ref 344, .ref (oA i)], [], 0, 0, MM Ln (TK σ a n (u2 od i 0 (jI (c a)))) lo db) K := by
            simp (disch := omega) only [s_66_0, s_66_1, s_66_4, s_66_5, s_66_8, s_66_11, s_66_12, s_66_13, s_66_14, s_66_15, s_66_18, s_66_19, s_66_22, s_66_23, s_66_26, s_66_27, s_66_30_99, s_66_30_100, s_66_30_101, s_66_30_102, s_66_30_103, s_66_30_104, s_66_30_105, s_66_30_106, s_66_30_107, s_66_30_108, s_66_30_109, s_66_30_110, s_66_30_111, s_66_30_112, s_66_30_113, s_66_30_114, s_66_30_115, s_66_30_d, s_66_112, s_66_113, s_66_114, s_66_117, s_66_118, s_66_119, s_66_122, s_66_123, s_66_124, r_66_124, s_66_127, s_66_128, s_66_129, s_66_130, s_66_133, s_66_134, s_66_135, s_66_138, s_66_139, s_66_140, r_66_140, s_66_143, s_66_144, s_66_145, s_66_146, s_66_149, s_66_150, s_66_151, s_66_154, s_66_155, s_66_156, s_66_157, r_66_157, s_66_160, s_66_163, s_66_164, s_66_167, s_66_168, s_66_171, s_66_172, s_66_175, s_66_176, s_66_177, s_66_178, s_66_179, s_66_182, s_66_183, s_66_184, s_66_187, s_66_188, s_66_189, s_66_190, r_66_190, s_66_193, s_66_196, s_66_197, s_66_200, s_66_201, s_66_204, s_66_205, s_66_208, s_66_209, s_66_210, s_66_211, jI_mul, jI_add, jI_tnc, jI_ixT, true_and, and_true, bZ_0, bZ_1, bZ_b, jI_nz, jI_div, jI_rem, jI_mod, Nat.add_zero, bI_if, not_false_iff, if_true, if_false, eq_self, TK_4, TK_u4]
            refine c_compl hI' (by omega) hi (fun e od' he => ?_) (fun b x y he hx hy => ?_)
            · rw [he] at F
              simp (disch := omega) only [s_66_0, s_66_1, s_66_4, s_66_5, s_66_8, s_66_11, s_66_12, s_66_13, s_66_14, s_66_15, s_66_18, s_66_19, s_66_22, s_66_23, s_66_26, s_66_27, s_66_30_99, s_66_30_100, s_66_30_101, s_66_30_102, s_66_30_103, s_66_30_104, s_66_30_105, s_66_30_106, s_66_30_107, s_66_30_108, s_66_30_109, s_66_30_110, s_66_30_111, s_66_30_112, s_66_30_113, s_66_30_114, s_66_30_115, s_66_30_d, s_66_112, s_66_113, s_66_114, s_66_117, s_66_118, s_66_119, s_66_122, s_66_123, s_66_124, r_66_124, s_66_127, s_66_128, s_66_129, s_66_130, s_66_133, s_66_134, s_66_135, s_66_138, s_66_139, s_66_140, r_66_140, s_66_143, s_66_144, s_66_145, s_66_146, s_66_149, s_66_150, s_66_151, s_66_154, s_66_155, s_66_156, s_66_157, r_66_157, s_66_160, s_66_163, s_66_164, s_66_167, s_66_168, s_66_171, s_66_172, s_66_175, s_66_176, s_66_177, s_66_178, s_66_179, s_66_182, s_66_183, s_66_184, s_66_187, s_66_188, s_66_189, s_66_190, r_66_190, s_66_193, s_66_196, s_66_197, s_66_200, s_66_201, s_66_204, s_66_205, s_66_208, s_66_209, s_66_210, s_66_211, jI_mul, jI_add, jI_tnc, jI_ixT, true_and, and_true, bZ_0, bZ_1, bZ_b, jI_nz, jI_div, jI_rem, jI_mod, Nat.add_zero, bI_if, not_false_iff, if_true, if_false, eq_self]
              exact F e _ rfl
            · rw [he] at H
              simp (disch := omega) only [s_66_0, s_66_1, s_66_4, s_66_5, s_66_8, s_66_11, s_66_12, s_66_13, s_66_14, s_66_15, s_66_18, s_66_19, s_66_22, s_66_23, s_66_26, s_66_27, s_66_30_99, s_66_30_100, s_66_30_101, s_66_30_102, s_66_30_103, s_66_30_104, s_66_30_105, s_66_30_106, s_66_30_107, s_66_30_108, s_66_30_109, s_66_30_110, s_66_30_111, s_66_30_112, s_66_30_113, s_66_30_114, s_66_30_115, s_66_30_d, s_66_112, s_66_113, s_66_114, s_66_117, s_66_118, s_66_119, s_66_122, s_66_123, s_66_124, r_66_124, s_66_127, s_66_128, s_66_129, s_66_130, s_66_133, s_66_134, s_66_135, s_66_138, s_66_139, s_66_140, r_66_140, s_66_143, s_66_144, s_66_145, s_66_146, s_66_149, s_66_150, s_66_151, s_66_154, s_66_155, s_66_156, s_66_157, r_66_157, s_66_160, s_66_163, s_66_164, s_66_167, s_66_168, s_66_171, s_66_172, s_66_175, s_66_176, s_66_177, s_66_178, s_66_179, s_66_182, s_66_183, s_66_184, s_66_187, s_66_188, s_66_189, s_66_190, r_66_190, s_66_193, s_66_196, s_66_197, s_66_200, s_66_201, s_66_204, s_66_205, s_66_208, s_66_209, s_66_210, s_66_211, jI_mul, jI_add, jI_tnc, jI_ixT, true_and, and_true, bZ_0, bZ_1, bZ_b, jI_nz, jI_div, jI_rem, jI_mod, Nat.add_zero, bI_if, not_false_iff, if_true, if_false, eq_self]
              refine H b _ _ rfl ⟨Or.inl rfl, hx, hy, Nat.succ_pos _⟩ (fr (fr fr0)) ⟨?_, ?_, fun _ => u2_at, fun hh => ?_⟩
              · rw [u2_nk (by decide), u2_nk (by decide), at0, q3]
              · rw [u2_nk (by decide)]; exact u2_at
              · exact absurd hh (by dsimp only; omega)
          rw [q3, s_66_30_99, ← q3]; exact this
        · by_cases q4 : c a = 111 ∨ c a = 115
          · rw [ordP_o h q4] at F H
            have : Ev 66 (112, [.ref 344, .ref (oA i)], [], 0, 0, MM Ln (TK σ a n (u2 od i 0 (jI (c a)))) lo db) K := by
              simp (disch := omega) only [s_66_0, s_66_1, s_66_4, s_66_5, s_66_8, s_66_11, s_66_12, s_66_13, s_66_14, s_66_15, s_66_18, s_66_19, s_66_22, s_66_23, s_66_26, s_66_27, s_66_30_99, s_66_30_100, s_66_30_101, s_66_30_102, s_66_30_103, s_66_30_104, s_66_30_105, s_66_30_106, s_66_30_107, s_66_30_108, s_66_30_109, s_66_30_110, s_66_30_111, s_66_30_112, s_66_30_113, s_66_30_114, s_66_30_115, s_66_30_d, s_66_112, s_66_113, s_66_114, s_66_117, s_66_118, s_66_119, s_66_122, s_66_123, s_66_124, r_66_124, s_66_127, s_66_128, s_66_129, s_66_130, s_66_133, s_66_134, s_66_135, s_66_138, s_66_139, s_66_140, r_66_140, s_66_143, s_66_144, s_66_145, s_66_146, s_66_149, s_66_150, s_66_151, s_66_154, s_66_155, s_66_156, s_66_157, r_66_157, s_66_160, s_66_163, s_66_164, s_66_167, s_66_168, s_66_171, s_66_172, s_66_175, s_66_176, s_66_177, s_66_178, s_66_179, s_66_182, s_66_183, s_66_184, s_66_187, s_66_188, s_66_189, s_66_190, r_66_190, s_66_193, s_66_196, s_66_197, s_66_200, s_66_201, s_66_204, s_66_205, s_66_208, s_66_209, s_66_210, s_66_211, jI_mul, jI_add, jI_tnc, jI_ixT, true_and, and_true, bZ_0, bZ_1, bZ_b, jI_nz, jI_div, jI_rem, jI_mod, Nat.add_zero, bI_if, not_false_iff, if_true, if_false, eq_self, TK_4, TK_u4]
              refine c_hrs hI' (by omega) hi (fun e od' he => ?_) (fun b x y z he hx hy hz => ?_)
              · rw [he] at F
                simp (disch := omega) only [s_66_0, s_66_1, s_66_4, s_66_5, s_66_8, s_66_11, s_66_12, s_66_13, s_66_14, s_66_15, s_66_18, s_66_19, s_66_22, s_66_23, s_66_26, s_66_27, s_66_30_99, s_66_30_100, s_66_30_101, s_66_30_102, s_66_30_103, s_66_30_104, s_66_30_105, s_66_30_106, s_66_30_107, s_66_30_108, s_66_30_109, s_66_30_110, s_66_30_111, s_66_30_112, s_66_30_113, s_66_30_114, s_66_30_115, s_66_30_d, s_66_112, s_66_113, s_66_114, s_66_117, s_66_118, s_66_119, s_66_122, s_66_123, s_66_124, r_66_124, s_66_127, s_66_128, s_66_129, s_66_130, s_66_133, s_66_134, s_66_135, s_66_138, s_66_139, s_66_140, r_66_140, s_66_143, s_66_144, s_66_145, s_66_146, s_66_149, s_66_150, s_66_151, s_66_154, s_66_155, s_66_156, s_66_157, r_66_157, s_66_160, s_66_163, s_66_164, s_66_167, s_66_168, s_66_171, s_66_172, s_66_175, s_66_176, s_66_177, s_66_178, s_66_179, s_66_182, s_66_183, s_66_184, s_66_187, s_66_188, s_66_189, s_66_190, r_66_190, s_66_193, s_66_196, s_66_197, s_66_200, s_66_201, s_66_204, s_66_205, s_66_208, s_66_209, s_66_210, s_66_211, jI_mul, jI_add, jI_tnc, jI_ixT, true_and, and_true, bZ_0, bZ_1, bZ_b, jI_nz, jI_div, jI_rem, jI_mod, Nat.add_zero, bI_if, not_false_iff, if_true, if_false, eq_self]
                exact F e _ rfl
              · rw [he] at H
                simp (disch := omega) only [s_66_0, s_66_1, s_66_4, s_66_5, s_66_8, s_66_11, s_66_12, s_66_13, s_66_14, s_66_15, s_66_18, s_66_19, s_66_22, s_66_23, s_66_26, s_66_27, s_66_30_99, s_66_30_100, s_66_30_101, s_66_30_102, s_66_30_103, s_66_30_104, s_66_30_105, s_66_30_106, s_66_30_107, s_66_30_108, s_66_30_109, s_66_30_110, s_66_30_111, s_66_30_112, s_66_30_113, s_66_30_114, s_66_30_115, s_66_30_d, s_66_112, s_66_113, s_66_114, s_66_117, s_66_118, s_66_119, s_66_122, s_66_123, s_66_124, r_66_124, s_66_127, s_66_128, s_66_129, s_66_130, s_66_133, s_66_134, s_66_135, s_66_138, s_66_139, s_66_140, r_66_140, s_66_143, s_66_144, s_66_145, s_66_146, s_66_149, s_66_150, s_66_151, s_66_154, s_66_155, s_66_156, s_66_157, r_66_157, s_66_160, s_66_163, s_66_164, s_66_167, s_66_168, s_66_171, s_66_172, s_66_175, s_66_176, s_66_177, s_66_178, s_66_179, s_66_182, s_66_183, s_66_184, s_66_187, s_66_188, s_66_189, s_66_190, r_66_190, s_66_193, s_66_196, s_66_197, s_66_200, s_66_201, s_66_204, s_66_205, s_66_208, s_66_209, s_66_210, s_66_211, jI_mul, jI_add, jI_tnc, jI_ixT, true_and, and_true, bZ_0, bZ_1, bZ_b, jI_nz, jI_div, jI_rem, jI_mod, Nat.add_zero, bI_if, not_false_iff, if_true, if_false, eq_self]
                refine H b _ _ rfl ⟨by dsimp only; omega, hx, hy, hz⟩ (fr (fr (fr fr0))) ⟨?_, ?_, fun _ => ?_, fun _ => u2_at⟩
                · rw [u2_nk (by decide), u2_nk (by decide), u2_nk (by decide)]; exact at0
                · rw [u2_nk (by decide), u2_nk (by decide)]; exact u2_at
                · rw [u2_nk (by decide)]; exact u2_at
            rcases q4 with q4 | q4
            · rw [q4, s_66_30_111, ← q4]; exact this
            · rw [q4, s_66_30_115, ← q4]; exact this
          · rw [ordP_no (by omega)] at F
            rw [s_66_30_d (tsw_no hc (by omega))]
            simp (disch := omega) only [s_66_0, s_66_1, s_66_4, s_66_5, s_66_8, s_66_11, s_66_12, s_66_13, s_66_14, s_66_15, s_66_18, s_66_19, s_66_22, s_66_23, s_66_26, s_66_27, s_66_30_99, s_66_30_100, s_66_30_101, s_66_30_102, s_66_30_103, s_66_30_104, s_66_30_105, s_66_30_106, s_66_30_107, s_66_30_108, s_66_30_109, s_66_30_110, s_66_30_111, s_66_30_112, s_66_30_113, s_66_30_114, s_66_30_115, s_66_30_d, s_66_112, s_66_113, s_66_114, s_66_117, s_66_118, s_66_119, s_66_122, s_66_123, s_66_124, r_66_124, s_66_127, s_66_128, s_66_129, s_66_130, s_66_133, s_66_134, s_66_135, s_66_138, s_66_139, s_66_140, r_66_140, s_66_143, s_66_144, s_66_145, s_66_146, s_66_149, s_66_150, s_66_151, s_66_154, s_66_155, s_66_156, s_66_157, r_66_157, s_66_160, s_66_163, s_66_164, s_66_167, s_66_168, s_66_171, s_66_172, s_66_175, s_66_176, s_66_177, s_66_178, s_66_179, s_66_182, s_66_183, s_66_184, s_66_187, s_66_188, s_66_189, s_66_190, r_66_190, s_66_193, s_66_196, s_66_197, s_66_200, s_66_201, s_66_204, s_66_205, s_66_208, s_66_209, s_66_210, s_66_211, jI_mul, jI_add, jI_tnc, jI_ixT, true_and, and_true, bZ_0, bZ_1, bZ_b, jI_nz, jI_div, jI_rem, jI_mod, Nat.add_zero, bI_if, not_false_iff, if_true, if_false, eq_self]
            exact F a _ rfl
  · rw [ordP_no (fun e => h e.1)] at F
    have e0 : a = len := by omega
    subst e0
    have nl : (jI a < jI a) = False := eq_false (Int32.lt_irrefl)
    simp (disch := omega) only [s_66_0, s_66_1, s_66_4, s_66_5, s_66_8, s_66_11, s_66_12, s_66_14, s_66_15, s_66_18, s_66_19, s_66_22, s_66_23, s_66_26, s_66_27, s_66_30_99, s_66_30_100, s_66_30_101, s_66_30_102, s_66_30_103, s_66_30_104, s_66_30_105, s_66_30_106, s_66_30_107, s_66_30_108, s_66_30_109, s_66_30_110, s_66_30_111, s_66_30_112, s_66_30_113, s_66_30_114, s_66_30_115, s_66_30_d, s_66_112, s_66_113, s_66_114, s_66_117, s_66_118, s_66_119, s_66_122, s_66_123, s_66_124, r_66_124, s_66_127, s_66_128, s_66_129, s_66_130, s_66_133, s_66_134, s_66_135, s_66_138, s_66_139, s_66_140, r_66_140, s_66_143, s_66_144, s_66_145, s_66_146, s_66_149, s_66_150, s_66_151, s_66_154, s_66_155, s_66_156, s_66_157, r_66_157, s_66_160, s_66_163, s_66_164, s_66_167, s_66_168, s_66_171, s_66_172, s_66_175, s_66_176, s_66_177, s_66_178, s_66_179, s_66_182, s_66_183, s_66_184, s_66_187, s_66_188, s_66_189, s_66_190, r_66_190, s_66_193, s_66_196, s_66_197, s_66_200, s_66_201, s_66_204, s_66_205, s_66_208, s_66_209, s_66_210, s_66_211, jI_mul, jI_add, jI_tnc, jI_ixT, true_and, and_true, bZ_0, bZ_1, bZ_b, jI_nz, jI_div, jI_rem, jI_mod, Nat.add_zero, bI_if, not_false_iff, if_true, if_false, eq_self, TK_4, TK_2, i2, nl, if_false]
    exact F a _ rfl
theorem c_text (hI : INC σ c len) : ∀ (f n a : Nat) (od : Nat → Nat → Int32), len < 3 * f + a → 3 * n ≤ a → a ≤ len → (∀ e n' od', txP c len f a = .inl e → K (.inl (some (.int (jI 0)))) (MM Ln (TK σ e n' od') lo db)) →
    (∀ l od', txP c len f a = .inr l → n + l.length ≤ 20 → (∀ j, j < n → od' j = od j) → (∀ i r, l[i]? = some r → odR od' (n + i) r ∧ RcB r) → K (.inl (some (.int (jI 1)))) (MM Ln (TK σ len (n + l.length) od') lo db)) →
    Ev 65 (10, [.ref 344], [], 0, 0, MM Ln (TK σ a n od) lo db) K
  | 0, n, a, od, h1, h2, h3, F, H => by omega
  | f + 1, n, a, od, h1, h2, h3, F, H => by
    have n1 : (jI 1 = jI 0) = False := jI_nz (by decide) (by decide)
    have hl := hI.1
    rw [s_65_10]
    by_cases h20 : n < 20
    · unfold txP at F H
      simp (disch := omega) only [s_65_0, s_65_1, s_65_2, s_65_5, s_65_6, s_65_7, s_65_11, s_65_14, s_65_16, s_65_19, s_65_20, s_65_21, s_65_24, s_65_25, s_65_28, s_65_29, r_65_29, s_65_32, s_65_35, s_65_36, s_65_37, s_65_40, s_65_41, s_65_42, s_65_45, s_65_46, s_65_49, s_65_50, s_65_53, s_65_56, s_65_57, s_65_58, s_65_59, s_65_61, r_65_61, s_65_64, s_65_67, s_65_68, s_65_69, s_65_70, jI_mul, jI_add, jI_tnc, jI_ixT, true_and, and_true, bZ_0, bZ_1, bZ_b, jI_nz, jI_div, jI_rem, jI_mod, Nat.add_zero, bI_if, not_false_iff, if_true, if_false, eq_self, TK_3, jI_le]
      rw [if_neg (by omega)]
      refine c_order hI h3 h20 (fun e od' he => ?_) (fun b r od' he hr k1 k2 => ?_)
      · rw [he] at F
        simp (disch := omega) only [s_65_0, s_65_1, s_65_2, s_65_5, s_65_6, s_65_7, s_65_11, s_65_14, s_65_16, s_65_19, s_65_20, s_65_21, s_65_24, s_65_25, s_65_28, s_65_29, r_65_29, s_65_32, s_65_35, s_65_36, s_65_37, s_65_40, s_65_41, s_65_42, s_65_45, s_65_46, s_65_49, s_65_50, s_65_53, s_65_56, s_65_57, s_65_58, s_65_59, s_65_61, r_65_61, s_65_64, s_65_67, s_65_68, s_65_69, s_65_70, jI_mul, jI_add, jI_tnc, jI_ixT, true_and, and_true, bZ_0, bZ_1, bZ_b, jI_nz, jI_div, jI_rem, jI_mod, Nat.add_zero, bI_if, not_false_iff, if_true, if_false, eq_self]
        exact F e _ _ rfl
      · have hb := ordP_ge he
        rw [he] at F H
        dsimp only at F H
        simp (disch := omega) only [s_65_0, s_65_1, s_65_2, s_65_5, s_65_6, s_65_7, s_65_11, s_65_14, s_65_16, s_65_19, s_65_20, s_65_21, s_65_24, s_65_25, s_65_28, s_65_29, r_65_29, s_65_32, s_65_35, s_65_36, s_65_37, s_65_40, s_65_41, s_65_42, s_65_45, s_65_46, s_65_49, s_65_50, s_65_53, s_65_56, s_65_57, s_65_58, s_65_59, s_65_61, r_65_61, s_65_64, s_65_67, s_65_68, s_65_69, s_65_70, jI_mul, jI_add, jI_tnc, jI_ixT, true_and, and_true, bZ_0, bZ_1, bZ_b, jI_nz, jI_div, jI_rem, jI_mod, Nat.add_zero, bI_if, not_false_iff, if_true, if_false, eq_self, n1, TK_3, TK_u3, TK_4, TK_2, hI.2.1, jI_inj, c_sign hI hb.2]
        by_cases q0 : b = len
        · subst q0
          rw [if_neg (fun e => Nat.lt_irrefl b e.1), if_pos rfl] at H
          rw [if_pos rfl]
          refine H [r] od' rfl ?_ (fun j hj => k1 j (by omega)) (fun i r' hi => ?_)
          · rw [List.length_singleton]; omega
          · cases i with
            | zero =>
              rw [List.getElem?_cons_zero] at hi
              cases hi
              exact ⟨k2, hr⟩
            | succ i => rw [List.getElem?_cons_succ] at hi; cases hi
        · rw [if_neg q0]
          by_cases q : b < len ∧ c b = 59
          · rw [if_pos q] at F H
            rw [if_pos q]
            try simp (disch := omega) only [s_65_0, s_65_1, s_65_2, s_65_5, s_65_6, s_65_7, s_65_11, s_65_14, s_65_16, s_65_19, s_65_20, s_65_21, s_65_24, s_65_25, s_65_28, s_65_29, r_65_29, s_65_32, s_65_35, s_65_36, s_65_37, s_65_40, s_65_41, s_65_42, s_65_45, s_65_46, s_65_49, s_65_50, s_65_53, s_65_56, s_65_57, s_65_58, s_65_59, s_65_61, r_65_61, s_65_64, s_65_67, s_65_68, s_65_69, s_65_70, jI_mul, jI_add, jI_tnc, jI_ixT, true_and, and_true, bZ_0, bZ_1, bZ_b, jI_nz, jI_div, jI_rem, jI_mod, Nat.add_zero, bI_if, not_false_iff, if_true, if_false, eq_self, n1]
            refine c_text hI f (n + 1) (b + 1) od' (by omega) (by omega) (by omega) (fun e n' od'' he => ?_) (fun l od'' he k3 k4 k5 => ?_)
            · rw [he] at F
              exact F e _ _ rfl
            · rw [he] at H
              have := H (r :: l) od'' rfl (by rw [List.length_cons]; omega) (fun j hj => by rw [k4 j (by omega), k1 j (by omega)]) (fun i r' hi => ?_)
              · rw [List.length_cons, show n + (l.length + 1) = n + 1 + l.length by omega] at this
                exact this
              · cases i with
                | zero =>
                  rw [List.getElem?_cons_zero] at hi
                  cases hi
                  refine ⟨?_, hr⟩
                  unfold odR at k2 ⊢
                  rw [Nat.add_zero, k4 n (by omega)]
                  exact k2
                | succ i =>
                  rw [List.getElem?_cons_succ] at hi
                  rw [show n + (i + 1) = n + 1 + i by omega]
                  exact k5 i r' hi
          · rw [if_neg q, if_neg q0] at F
            rw [if_neg q]
            try simp (disch := omega) only [s_65_0, s_65_1, s_65_2, s_65_5, s_65_6, s_65_7, s_65_11, s_65_14, s_65_16, s_65_19, s_65_20, s_65_21, s_65_24, s_65_25, s_65_28, s_65_29, r_65_29, s_65_32, s_65_35, s_65_36, s_65_37, s_65_40, s_65_41, s_65_42, s_65_45, s_65_46, s_65_49, s_65_50, s_65_53, s_65_56, s_65_57, s_65_58, s_65_59, s_65_61, r_65_61, s_65_64, s_65_67, s_65_68, s_65_69, s_65_70, jI_mul, jI_add, jI_tnc, jI_ixT, true_and, and_true, bZ_0, bZ_1, bZ_b, jI_nz, jI_div, jI_rem, jI_mod, Nat.add_zero, bI_if, not_false_iff, if_true, if_false, eq_self]
            exact F b _ _ rfl
    · have e20 : n = 20 := by omega
      have ea : a = len := by omega
      unfold txP at F
      rw [ordP_no (fun e => by omega)] at F
      dsimp only at F
      simp (disch := omega) only [s_65_0, s_65_1, s_65_2, s_65_5, s_65_6, s_65_7, s_65_11, s_65_14, s_65_16, s_65_19, s_65_20, s_65_21, s_65_24, s_65_25, s_65_28, s_65_29, r_65_29, s_65_32, s_65_35, s_65_36, s_65_37, s_65_40, s_65_41, s_65_42, s_65_45, s_65_46, s_65_49, s_65_50, s_65_53, s_65_56, s_65_57, s_65_58, s_65_59, s_65_61, r_65_61, s_65_64, s_65_67, s_65_68, s_65_69, s_65_70, jI_mul, jI_add, jI_tnc, jI_ixT, true_and, and_true, bZ_0, bZ_1, bZ_b, jI_nz, jI_div, jI_rem, jI_mod, Nat.add_zero, bI_if, not_false_iff, if_true, if_false, eq_self, TK_3, jI_le]
      rw [if_pos (by omega)]
      exact F a _ _ rfl
theorem c_takeApart (hI : INC σ c len) (F : ∀ e n' od', TXT c len = .inl e → K (.inl (some (.int (jI 0)))) (MM Ln (TK σ e n' od') lo db))
    (H : ∀ l od', TXT c len = .inr l → l.length ≤ 20 → (∀ i r, l[i]? = some r → odR od' i r ∧ RcB r) → K (.inl (some (.int (jI 1)))) (MM Ln (TK σ len l.length od') lo db)) :
    Ev 65 (0, [.ref 344], [], 0, 0, MM Ln σ lo db) K := by
  have e : u2 (u2 σ 344 4 (jI 0)) 344 3 (jI 0) = TK σ 0 0 (fun j k => σ (347 + j) k) := by
    funext x j
    unfold u2 TK
    by_cases h : x = 344 ∧ j = 3
    · rw [if_pos h, if_neg (by omega), if_pos h]
    · rw [if_neg h, if_neg h]
      by_cases h7 : x = 344 ∧ j = 4
      · rw [if_pos h7, if_pos h7]
      · rw [if_neg h7, if_neg h7]
        by_cases h6 : 347 ≤ x ∧ x < 367
        · rw [if_pos h6]
          show σ x j = σ (347 + (x - 347)) j
          rw [show 347 + (x - 347) = x by omega]
        · rw [if_neg h6]
  have hl := hI.1
  simp only [s_65_0, s_65_1, s_65_2, s_65_5, s_65_6, s_65_7, s_65_11, s_65_14, s_65_16, s_65_19, s_65_20, s_65_21, s_65_24, s_65_25, s_65_28, s_65_29, r_65_29, s_65_32, s_65_35, s_65_36, s_65_37, s_65_40, s_65_41, s_65_42, s_65_45, s_65_46, s_65_49, s_65_50, s_65_53, s_65_56, s_65_57, s_65_58, s_65_59, s_65_61, r_65_61, s_65_64, s_65_67, s_65_68, s_65_69, s_65_70, jI_mul, jI_add, jI_tnc, jI_ixT, true_and, and_true, bZ_0, bZ_1, bZ_b, jI_nz, jI_div, jI_rem, jI_mod, Nat.add_zero, bI_if, not_false_iff, if_true, if_false, eq_self, e]
  refine c_text hI 21 0 0 _ (by omega) (by omega) (by omega) F (fun l od' he k1 k2 k3 => ?_)
  have := H l od' he (by omega) (fun i r hi => by have := k3 i r hi; rwa [Nat.zero_add] at this)
  rwa [Nat.zero_add]
end
