/-! THE REFERENCE: what there is -/
set_option maxRecDepth 16384
section
variable {K : Ou → Me → Prop} {Ln : Nat} {σ : Nat → Nat → Int32} {g : Gr} {lo : Nat → Nat → Int64} {db : Nat → Nat → UInt64} {μ : Me} {ch : Nat} {wi : Bool} {oh : Nat → Nat → Bool} {ng nd nc h : Nat}
def sumS (g : Gr) (n w : Nat) : Int32 := itN n (fun i v => v + g (75 + 9 * i + w)) (jI 0)
theorem m_sumOf {w : Nat} (hw : w < 9) (hnd : nd ≤ 12) (h4 : g 4 = jI nd) : Ev 176 (0, [.ref 368, .int (jI w), .null, .null], [], 0, 0, MM Ln (MG σ g) lo db) K ↔ K (.inl (some (.int (sumS g nd w)))) (MM Ln (MG σ g) lo db) := by
  have step : ∀ i, i ≤ nd → (Ev 176 (0, [.ref 368, .int (jI w), .null, .null], [], 0, 0, MM Ln (MG σ g) lo db) K ↔ Ev 176 (4, [.ref 368, .int (jI w), .int (sumS g i w), .int (jI i)], [], 0, 0, MM Ln (MG σ g) lo db) K) := by
    intro i
    induction i with
    | zero => intro _; simp only [s_176_0, s_176_1, s_176_2, s_176_3, s_176_5, s_176_6, s_176_9, s_176_10, s_176_11, s_176_14, s_176_15, s_176_16, s_176_17, s_176_18, r_176_18, s_176_21, s_176_22, s_176_23, s_176_26, s_176_29, s_176_30]; rfl
    | succ i ih =>
      intro hi
      rw [ih (by omega), s_176_4]
      simp (disch := omega) only [s_176_0, s_176_1, s_176_2, s_176_3, s_176_5, s_176_6, s_176_9, s_176_10, s_176_11, s_176_14, s_176_15, s_176_16, s_176_17, s_176_18, r_176_18, s_176_21, s_176_22, s_176_23, s_176_26, s_176_29, s_176_30, jI_mul, jI_add, jI_tnc, jI_ixT, true_and, and_true, bZ_0, bZ_1, bZ_b, jI_nz, jI_div, jI_rem, jI_mod, Nat.add_zero, bI_if, not_false_iff, if_true, if_false, eq_self, MG_g, h4, jI_le, m_ofN]
      rw [if_neg (by omega)]
      exact Iff.rfl
  rw [step nd (Nat.le_refl _), s_176_4]
  simp (disch := omega) only [s_176_0, s_176_1, s_176_2, s_176_3, s_176_5, s_176_6, s_176_9, s_176_10, s_176_11, s_176_14, s_176_15, s_176_16, s_176_17, s_176_18, r_176_18, s_176_21, s_176_22, s_176_23, s_176_26, s_176_29, s_176_30, jI_mul, jI_add, jI_tnc, jI_ixT, true_and, and_true, bZ_0, bZ_1, bZ_b, jI_nz, jI_div, jI_rem, jI_mod, Nat.add_zero, bI_if, not_false_iff, if_true, if_false, eq_self, MG_g, h4, jI_le, Nat.le_refl]
theorem m_gardenOf {v w : Int32} (hnd : nd ≤ 12) (h4 : g 4 = jI nd) (F1 : ¬ hs v nd → K (.inl (some (.int (jI 0)))) (MM Ln (MG (u2 σ 368 8 (jI 1)) g) lo db))
    (F2 : hs v nd → ¬ rng w 0 8 → K (.inl (some (.int (jI 0)))) (MM Ln (MG (u2 σ 368 8 (jI 2)) g) lo db))
    (H : ∀ k n, k < nd → v = jI k → n < 9 → w = jI n → K (.inl (some (.int (g (75 + 9 * k + n))))) (MM Ln (MG (u2 σ 368 8 (jI 0)) g) lo db)) : Ev 155 (0, [.ref 368, .int v, .int w], [], 0, 0, MM Ln (MG σ g) lo db) K := by
  simp (disch := omega) only [s_155_0, s_155_1, s_155_2, s_155_3, r_155_3, s_155_6, s_155_9, s_155_10, s_155_13, s_155_14, s_155_15, s_155_17, r_155_17, s_155_20, s_155_23, s_155_24, s_155_27, s_155_28, r_155_28, s_155_31, s_155_34, s_155_35, s_155_38, s_155_39, s_155_40, s_155_41, r_155_41, s_155_44, jI_mul, jI_add, jI_tnc, jI_ixT, true_and, and_true, bZ_0, bZ_1, bZ_b, jI_nz, jI_div, jI_rem, jI_mod, Nat.add_zero, bI_if, not_false_iff, if_true, if_false, eq_self, MG_g, m_in, m_isGarden hnd h4]
  by_cases h1 : hs v nd
  · obtain ⟨k, hk, rfl⟩ := hs_of h1 hnd
    rw [if_pos h1]
    by_cases h2 : rng w 0 8
    · rw [if_pos h2]
      obtain ⟨n, hn1, rfl⟩ := jI_of (v := w) (Int32.not_lt.mp h2.1)
      have h3 := h2.2
      rw [jI_lt (by decide) hn1] at h3
      simp (disch := omega) only [s_155_0, s_155_1, s_155_2, s_155_3, r_155_3, s_155_6, s_155_9, s_155_10, s_155_13, s_155_14, s_155_15, s_155_17, r_155_17, s_155_20, s_155_23, s_155_24, s_155_27, s_155_28, r_155_28, s_155_31, s_155_34, s_155_35, s_155_38, s_155_39, s_155_40, s_155_41, r_155_41, s_155_44, jI_mul, jI_add, jI_tnc, jI_ixT, true_and, and_true, bZ_0, bZ_1, bZ_b, jI_nz, jI_div, jI_rem, jI_mod, Nat.add_zero, bI_if, not_false_iff, if_true, if_false, eq_self, m_fail0, m_ofN]
      exact H k n hk rfl (by omega) rfl
    · rw [if_neg h2]
      simp (disch := omega) only [s_155_0, s_155_1, s_155_2, s_155_3, r_155_3, s_155_6, s_155_9, s_155_10, s_155_13, s_155_14, s_155_15, s_155_17, r_155_17, s_155_20, s_155_23, s_155_24, s_155_27, s_155_28, r_155_28, s_155_31, s_155_34, s_155_35, s_155_38, s_155_39, s_155_40, s_155_41, r_155_41, s_155_44, jI_mul, jI_add, jI_tnc, jI_ixT, true_and, and_true, bZ_0, bZ_1, bZ_b, jI_nz, jI_div, jI_rem, jI_mod, Nat.add_zero, bI_if, not_false_iff, if_true, if_false, eq_self, m_fail1]
      exact F2 h1 h2
  · rw [if_neg h1]
    simp (disch := omega) only [s_155_0, s_155_1, s_155_2, s_155_3, r_155_3, s_155_6, s_155_9, s_155_10, s_155_13, s_155_14, s_155_15, s_155_17, r_155_17, s_155_20, s_155_23, s_155_24, s_155_27, s_155_28, r_155_28, s_155_31, s_155_34, s_155_35, s_155_38, s_155_39, s_155_40, s_155_41, r_155_41, s_155_44, jI_mul, jI_add, jI_tnc, jI_ixT, true_and, and_true, bZ_0, bZ_1, bZ_b, jI_nz, jI_div, jI_rem, jI_mod, Nat.add_zero, bI_if, not_false_iff, if_true, if_false, eq_self, m_fail1]
    exact F1 h1
theorem m_save : Ev 183 (0, [.ref 368], [], 0, 0, MM Ln (MG σ g) lo db) K ↔ K (.inl (some (.int (g 4)))) (MM Ln (cpy (MG (u2 (u2 σ 368 8 (jI 0)) 368 5 (jI 1)) g) 369 0 371 0 199) lo db) := by
  have e : ∀ σ, cpy (MG σ g) 369 0 371 0 199 369 4 = g 4 := fun σ => if_neg (by omega)
  simp (disch := first | omega | exact KD_M0 | exact KD_M2) only [s_183_0, s_183_1, s_183_2, s_183_5, s_183_6, s_183_7, s_183_10, s_183_11, s_183_14, s_183_15, s_183_16, s_183_19, s_183_20, r_183_20, s_183_23, s_183_24, s_183_27, s_183_28, s_183_29, jI_mul, jI_add, jI_tnc, jI_ixT, true_and, and_true, bZ_0, bZ_1, bZ_b, jI_nz, jI_div, jI_rem, jI_mod, Nat.add_zero, bI_if, not_false_iff, if_true, if_false, eq_self, MG_uo, m_copies KD_M0 KD_M2 (by decide : 369 ≠ 371) (by decide : 0 + 199 ≤ 199) (by decide : 0 + 199 ≤ 199) (by decide) (by decide), e]
theorem m_sign {v : Int32} (hnd : nd ≤ 12) (h4 : g 4 = jI nd) (F1 : ¬ hs v nd → K (.inl (some (.int (jI 32)))) (MM Ln (MG (u2 σ 368 8 (jI 1)) g) lo db))
    (H : ∀ k, k < nd → v = jI k → K (.inl (some (.int (if jI 60 ≤ g (75 + 9 * k + 4) then jI 100 else if jI 0 < g (75 + 9 * k + 4) then jI 116 else jI 119)))) (MM Ln (MG (u2 σ 368 8 (jI 0)) g) lo db)) : Ev 159 (0, [.ref 368, .int v, .null], [], 0, 0, MM Ln (MG σ g) lo db) K := by
  have c1 : vp_nar .char (jI 32) = jI 32 := by decide +kernel
  have c2 : vp_nar .char (jI 100) = jI 100 := by decide +kernel
  have c3 : vp_nar .char (jI 116) = jI 116 := by decide +kernel
  have c4 : vp_nar .char (jI 119) = jI 119 := by decide +kernel
  simp (disch := omega) only [s_159_0, s_159_1, s_159_2, s_159_3, r_159_3, s_159_6, s_159_9, s_159_10, s_159_13, s_159_14, r_159_14, s_159_17, s_159_20, s_159_22, s_159_23, s_159_24, s_159_25, s_159_26, r_159_26, s_159_29, s_159_30, s_159_31, s_159_33, s_159_36, s_159_38, s_159_41, s_159_42, s_159_45, s_159_47, s_159_50, s_159_52, jI_mul, jI_add, jI_tnc, jI_ixT, true_and, and_true, bZ_0, bZ_1, bZ_b, jI_nz, jI_div, jI_rem, jI_mod, Nat.add_zero, bI_if, not_false_iff, if_true, if_false, eq_self, MG_g, m_in, m_isGarden hnd h4]
  by_cases h1 : hs v nd
  · obtain ⟨k, hk, rfl⟩ := hs_of h1 hnd
    have H := H k hk rfl
    rw [if_pos h1]
    simp (disch := omega) only [s_159_0, s_159_1, s_159_2, s_159_3, r_159_3, s_159_6, s_159_9, s_159_10, s_159_13, s_159_14, r_159_14, s_159_17, s_159_20, s_159_22, s_159_23, s_159_24, s_159_25, s_159_26, r_159_26, s_159_29, s_159_30, s_159_31, s_159_33, s_159_36, s_159_38, s_159_41, s_159_42, s_159_45, s_159_47, s_159_50, s_159_52, jI_mul, jI_add, jI_tnc, jI_ixT, true_and, and_true, bZ_0, bZ_1, bZ_b, jI_nz, jI_div, jI_rem, jI_mod, Nat.add_zero, bI_if, not_false_iff, if_true, if_false, eq_self, m_fail0, m_ofN, c1, c2, c3, c4, ← Int32.not_lt]
    simp only [← Int32.not_lt] at H
    by_cases q1 : g (75 + 9 * k + 4) < jI 60 <;> by_cases q2 : jI 0 < g (75 + 9 * k + 4) <;> simp only [q1, q2, not_true, not_false_iff, if_true, if_false] at H ⊢ <;> exact H
  · rw [if_neg h1]
    simp (disch := omega) only [s_159_0, s_159_1, s_159_2, s_159_3, r_159_3, s_159_6, s_159_9, s_159_10, s_159_13, s_159_14, r_159_14, s_159_17, s_159_20, s_159_22, s_159_23, s_159_24, s_159_25, s_159_26, r_159_26, s_159_29, s_159_30, s_159_31, s_159_33, s_159_36, s_159_38, s_159_41, s_159_42, s_159_45, s_159_47, s_159_50, s_159_52, jI_mul, jI_add, jI_tnc, jI_ixT, true_and, and_true, bZ_0, bZ_1, bZ_b, jI_nz, jI_div, jI_rem, jI_mod, Nat.add_zero, bI_if, not_false_iff, if_true, if_false, eq_self, m_fail1, c1]
    exact F1 h1
end
