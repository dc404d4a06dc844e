/-! THE REFERENCE: hours on trial -/
set_option maxRecDepth 16384
section
variable {K : Ou → Me → Prop} {Ln : Nat} {σ : Nat → Nat → Int32} {g : Gr} {lo : Nat → Nat → Int64} {db : Nat → Nat → UInt64} {μ : Me} {ch : Nat} {wi : Bool} {oh : Nat → Nat → Bool} {ng nd nc h : Nat}
theorem hourS_hi {k : Nat} (hk : 183 ≤ k) (hB : Bas g oh ng nd nc h) : hourS oh ng nd nc h g k = g k := by
  obtain ⟨w, w1, w2, w3⟩ := hourS_mid hB
  rw [w3, gu_ne (by omega)]
  have v1 : (if h % 168 = 84 then hrAll w nc else w) k = g k := by
    split
    · unfold hrAll
      rw [gu_ne (by omega)]
      exact (hrN_lo w2 nc (Nat.le_refl _) k (by omega)).trans (w1 k (by omega))
    · exact w1 k (by omega)
  split
  · exact (lkS_o (by omega) hB.1).trans v1
  · exact v1
theorem hoursS_hi {k : Nat} (hk : 183 ≤ k) (hB : Bas g oh ng nd nc h) : ∀ n, (hoursS oh ng nd nc h g n).1 k = g k
  | 0 => rfl
  | n + 1 => (hourS_hi hk (hoursS_bas hB n)).trans (hoursS_hi hk hB n)
theorem m_takesIn {k n : Nat} (hk : k < 6) (hn : n ≤ 200) (hB : Bas g oh ng nd nc h) (hh : h < 2000000000)
    (H : ∀ σ', (∀ a, a ≠ 375 → a ≠ 373 → a ≠ 368 → a ≠ 369 → σ' a = σ a) → (∀ j, j ≠ 16 → σ' 368 j = σ 368 j) → K (.inl (some (.int ((hoursS oh ng nd nc h g n).1 (15 + 10 * k + 2) - g (15 + 10 * k + 2))))) (MM Ln (MG σ' g) lo db)) :
    Ev 161 (0, [.ref 368, .int (jI k), .int (jI n), .null], [], 0, 0, MM Ln (MG σ g) lo db) K := by
  have c1 : cpy (MG σ g) 369 0 373 0 199 = MG (cpy (MG σ g) 369 0 373 0 199) g := by
    have := MG_self (cpy (MG σ g) 369 0 373 0 199)
    rw [cpy_o (by decide), MG_gf] at this
    exact this.symm
  simp (disch := omega) only [s_161_0, s_161_1, s_161_4, s_161_5, s_161_6, s_161_9, s_161_10, r_161_10, s_161_13, s_161_14, s_161_16, s_161_17, s_161_20, s_161_21, r_161_21, s_161_24, s_161_27, s_161_30, s_161_31, s_161_32, s_161_33, r_161_33, s_161_36, s_161_37, s_161_40, s_161_42, s_161_44, s_161_45, s_161_46, s_161_47, s_161_48, s_161_49, s_161_50, s_161_51, s_161_52, s_161_53, s_161_56, s_161_57, s_161_58, s_161_61, s_161_62, r_161_62, s_161_65, s_161_66, jI_mul, jI_add, jI_tnc, jI_ixT, true_and, and_true, bZ_0, bZ_1, bZ_b, jI_nz, jI_div, jI_rem, jI_mod, Nat.add_zero, bI_if, not_false_iff, if_true, if_false, eq_self, m_copies KD_M0 KD_M4 (by decide : 369 ≠ 373) (by decide : 0 + 199 ≤ 199) (by decide : 0 + 199 ≤ 199) (by decide) (by decide)]
  rw [c1]
  refine lup0 n (fun i x => ∃ σ', x = (15, [.ref 368, .int (jI k), .int (jI n), .int (jI i)], [], 0, 0, MM Ln (MG σ' (hoursS oh ng nd nc h g i).1) lo db) ∧ FR (cpy (MG σ g) 369 0 373 0 199) σ') ⟨_, rfl, FR.refl⟩ ?_ ?_
  · rintro i x hi ⟨σ', rfl, f1⟩ hn
    rw [s_161_15]
    simp (disch := omega) only [s_161_0, s_161_1, s_161_4, s_161_5, s_161_6, s_161_9, s_161_10, r_161_10, s_161_13, s_161_14, s_161_16, s_161_17, s_161_20, s_161_21, r_161_21, s_161_24, s_161_27, s_161_30, s_161_31, s_161_32, s_161_33, r_161_33, s_161_36, s_161_37, s_161_40, s_161_42, s_161_44, s_161_45, s_161_46, s_161_47, s_161_48, s_161_49, s_161_50, s_161_51, s_161_52, s_161_53, s_161_56, s_161_57, s_161_58, s_161_61, s_161_62, r_161_62, s_161_65, s_161_66, jI_mul, jI_add, jI_tnc, jI_ixT, true_and, and_true, bZ_0, bZ_1, bZ_b, jI_nz, jI_div, jI_rem, jI_mod, Nat.add_zero, bI_if, not_false_iff, if_true, if_false, eq_self, jI_le]
    rw [if_neg (by omega)]
    refine m_goesB (hoursS_bas hB i) (by omega) ?_
    intro σ'' f2
    simp (disch := omega) only [s_161_0, s_161_1, s_161_4, s_161_5, s_161_6, s_161_9, s_161_10, r_161_10, s_161_13, s_161_14, s_161_16, s_161_17, s_161_20, s_161_21, r_161_21, s_161_24, s_161_27, s_161_30, s_161_31, s_161_32, s_161_33, r_161_33, s_161_36, s_161_37, s_161_40, s_161_42, s_161_44, s_161_45, s_161_46, s_161_47, s_161_48, s_161_49, s_161_50, s_161_51, s_161_52, s_161_53, s_161_56, s_161_57, s_161_58, s_161_61, s_161_62, r_161_62, s_161_65, s_161_66, jI_mul, jI_add, jI_tnc, jI_ixT, true_and, and_true, bZ_0, bZ_1, bZ_b, jI_nz, jI_div, jI_rem, jI_mod, Nat.add_zero, bI_if, not_false_iff, if_true, if_false, eq_self]
    exact hn _ ⟨σ'', rfl, f1.trans f2⟩
  · rintro x ⟨σ', rfl, f1⟩
    have s1 : ∀ j, j < 199 → σ' 373 j = g j := by
      intro j hj
      rw [f1.1 373 (by decide) (by decide)]
      unfold cpy
      rw [if_pos (by omega)]
      show MG σ g 369 (0 + (j - 0)) = g j
      rw [MG_g]
      congr 1
      omega
    have s2 : σ' 373 (15 + 10 * k + 2) = g (15 + 10 * k + 2) := s1 _ (by omega)
    have e : cpy (MG σ' (hoursS oh ng nd nc h g n).1) 373 0 369 0 199 = MG σ' g := by
      funext a j
      unfold cpy
      by_cases ha : a = 369 ∧ 0 ≤ j ∧ j < 0 + 199
      · rw [if_pos ha, MG_o (by decide), ha.1, MG_g]
        rw [show 0 + (j - 0) = j by omega]
        exact s1 j (by omega)
      · rw [if_neg ha]
        unfold MG
        by_cases h9 : a = 369
        · rw [if_pos h9, if_pos h9]
          exact hoursS_hi (by omega) hB n
        · rw [if_neg h9, if_neg h9]
    rw [s_161_15]
    simp (disch := omega) only [s_161_0, s_161_1, s_161_4, s_161_5, s_161_6, s_161_9, s_161_10, r_161_10, s_161_13, s_161_14, s_161_16, s_161_17, s_161_20, s_161_21, r_161_21, s_161_24, s_161_27, s_161_30, s_161_31, s_161_32, s_161_33, r_161_33, s_161_36, s_161_37, s_161_40, s_161_42, s_161_44, s_161_45, s_161_46, s_161_47, s_161_48, s_161_49, s_161_50, s_161_51, s_161_52, s_161_53, s_161_56, s_161_57, s_161_58, s_161_61, s_161_62, r_161_62, s_161_65, s_161_66, jI_mul, jI_add, jI_tnc, jI_ixT, true_and, and_true, bZ_0, bZ_1, bZ_b, jI_nz, jI_div, jI_rem, jI_mod, Nat.add_zero, bI_if, not_false_iff, if_true, if_false, eq_self, jI_le, Nat.le_refl, m_ofG, MG_o, s2, m_copies KD_M4 KD_M0 (by decide : 373 ≠ 369) (by decide : 0 + 199 ≤ 199) (by decide : 0 + 199 ≤ 199) (by decide) (by decide), e]
    refine H σ' ?_ ?_
    · intro a h1 h2 h3 h9
      rw [f1.1 a h1 h3, cpy_o h2]
      exact MG_of h9
    · intro j hj
      rw [f1.2 j hj, cpy_o (by decide)]
      rfl
theorem m_ahead' {v w : Int32} (hB : Bas g oh ng nd nc h) (hh : h < 2000000000) (F1 : ¬ hs v ng → K (.inl (some (.int (jI 0)))) (MM Ln (MG (u2 σ 368 8 (jI 1)) g) lo db))
    (F2 : hs v ng → ¬ rng w 1 200 → K (.inl (some (.int (jI 0)))) (MM Ln (MG (u2 σ 368 8 (jI 2)) g) lo db))
    (H : ∀ k n σ', k < ng → v = jI k → 1 ≤ n → n ≤ 200 → w = jI n → (∀ a, a ≠ 375 → a ≠ 373 → a ≠ 368 → a ≠ 369 → σ' a = σ a) → (∀ j, j ≠ 16 → σ' 368 j = u2 σ 368 8 (jI 0) 368 j) → K (.inl (some (.int ((hoursS oh ng nd nc h g n).1 (15 + 10 * k + 2) - g (15 + 10 * k + 2))))) (MM Ln (MG σ' g) lo db)) :
    Ev 162 (0, [.ref 368, .int v, .int w], [], 0, 0, MM Ln (MG σ g) lo db) K := by
  simp (disch := omega) only [s_162_0, s_162_1, s_162_2, s_162_3, r_162_3, s_162_6, s_162_9, s_162_10, s_162_13, s_162_14, s_162_15, s_162_18, r_162_18, s_162_21, s_162_24, s_162_25, s_162_28, s_162_29, r_162_29, s_162_32, s_162_35, s_162_36, s_162_39, s_162_40, s_162_41, s_162_42, r_162_42, s_162_45, jI_mul, jI_add, jI_tnc, jI_ixT, true_and, and_true, bZ_0, bZ_1, bZ_b, jI_nz, jI_div, jI_rem, jI_mod, Nat.add_zero, bI_if, not_false_iff, if_true, if_false, eq_self, MG_g, m_in, m_isGate hB.1 hB.2.2.2.2.1]
  by_cases h1 : hs v ng
  · obtain ⟨k, hk, rfl⟩ := hs_of h1 (by have := hB.1; omega)
    rw [if_pos h1]
    by_cases h2 : rng w 1 200
    · rw [if_pos h2]
      obtain ⟨n, hn1, rfl⟩ := jI_of (v := w) (by
        have := h2.1
        rw [Int32.not_lt] at this
        exact Int32.le_trans (by decide : (0 : Int32) ≤ jI 1) this)
      have h3 := h2.1
      have h4 := h2.2
      rw [jI_lt hn1 (by decide)] at h3
      rw [jI_lt (by decide) hn1] at h4
      simp (disch := omega) only [s_162_0, s_162_1, s_162_2, s_162_3, r_162_3, s_162_6, s_162_9, s_162_10, s_162_13, s_162_14, s_162_15, s_162_18, r_162_18, s_162_21, s_162_24, s_162_25, s_162_28, s_162_29, r_162_29, s_162_32, s_162_35, s_162_36, s_162_39, s_162_40, s_162_41, s_162_42, r_162_42, s_162_45, jI_mul, jI_add, jI_tnc, jI_ixT, true_and, and_true, bZ_0, bZ_1, bZ_b, jI_nz, jI_div, jI_rem, jI_mod, Nat.add_zero, bI_if, not_false_iff, if_true, if_false, eq_self, m_fail0]
      refine m_takesIn (by have := hB.1; omega) (by omega) hB hh ?_
      intro σ' f1 f2
      simp (disch := omega) only [s_162_0, s_162_1, s_162_2, s_162_3, r_162_3, s_162_6, s_162_9, s_162_10, s_162_13, s_162_14, s_162_15, s_162_18, r_162_18, s_162_21, s_162_24, s_162_25, s_162_28, s_162_29, r_162_29, s_162_32, s_162_35, s_162_36, s_162_39, s_162_40, s_162_41, s_162_42, r_162_42, s_162_45, jI_mul, jI_add, jI_tnc, jI_ixT, true_and, and_true, bZ_0, bZ_1, bZ_b, jI_nz, jI_div, jI_rem, jI_mod, Nat.add_zero, bI_if, not_false_iff, if_true, if_false, eq_self]
      refine H k n σ' hk rfl (by omega) (by omega) rfl (fun a h1 h2 h3 h4 => ?_) f2
      rw [f1 a h1 h2 h3 h4]
      funext j
      exact u2_na h3
    · rw [if_neg h2]
      simp (disch := omega) only [s_162_0, s_162_1, s_162_2, s_162_3, r_162_3, s_162_6, s_162_9, s_162_10, s_162_13, s_162_14, s_162_15, s_162_18, r_162_18, s_162_21, s_162_24, s_162_25, s_162_28, s_162_29, r_162_29, s_162_32, s_162_35, s_162_36, s_162_39, s_162_40, s_162_41, s_162_42, r_162_42, s_162_45, jI_mul, jI_add, jI_tnc, jI_ixT, true_and, and_true, bZ_0, bZ_1, bZ_b, jI_nz, jI_div, jI_rem, jI_mod, Nat.add_zero, bI_if, not_false_iff, if_true, if_false, eq_self, m_fail1]
      exact F2 h1 h2
  · rw [if_neg h1]
    simp (disch := omega) only [s_162_0, s_162_1, s_162_2, s_162_3, r_162_3, s_162_6, s_162_9, s_162_10, s_162_13, s_162_14, s_162_15, s_162_18, r_162_18, s_162_21, s_162_24, s_162_25, s_162_28, s_162_29, r_162_29, s_162_32, s_162_35, s_162_36, s_162_39, s_162_40, s_162_41, s_162_42, r_162_42, s_162_45, jI_mul, jI_add, jI_tnc, jI_ixT, true_and, and_true, bZ_0, bZ_1, bZ_b, jI_nz, jI_div, jI_rem, jI_mod, Nat.add_zero, bI_if, not_false_iff, if_true, if_false, eq_self, m_fail1]
    exact F1 h1
end
