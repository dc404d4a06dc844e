/-! THE REFERENCE: what there is, further -/
set_option maxRecDepth 16384
section
variable {K : Ou → Me → Prop} {Ln : Nat} {σ : Nat → Nat → Int32} {g : Gr} {lo : Nat → Nat → Int64} {db : Nat → Nat → UInt64} {μ : Me} {ch : Nat} {wi : Bool} {oh : Nat → Nat → Bool} {ng nd nc h : Nat}
/-- how many of the first n have p -/
def cntS (p : Nat → Bool) (n : Nat) : Nat := itN n (fun i v => if p i = true then v + 1 else v) 0
theorem m_gardensAt {v : Int32} (hnd : nd ≤ 12) (h4 : g 4 = jI nd) : Ev 152 (0, [.ref 368, .int v, .null, .null], [], 0, 0, MM Ln (MG σ g) lo db) K ↔ K (.inl (some (.int (jI (cntS (fun i => decide (g (75 + 9 * i) = v)) nd))))) (MM Ln (MG σ g) lo db) := by
  have step : ∀ i, i ≤ nd → (Ev 152 (0, [.ref 368, .int v, .null, .null], [], 0, 0, MM Ln (MG σ g) lo db) K ↔ Ev 152 (4, [.ref 368, .int v, .int (jI (cntS (fun i => decide (g (75 + 9 * i) = v)) i)), .int (jI i)], [], 0, 0, MM Ln (MG σ g) lo db) K) := by
    intro i
    induction i with
    | zero => intro _; simp only [s_152_0, s_152_1, s_152_2, s_152_3, s_152_5, s_152_6, s_152_9, s_152_10, s_152_11, s_152_14, s_152_15, s_152_16, s_152_17, s_152_18, r_152_18, s_152_21, s_152_22, s_152_25, s_152_26, s_152_29, s_152_30, s_152_31, s_152_32, s_152_35, s_152_38, s_152_39]; rfl
    | succ i ih =>
      intro hi
      rw [ih (by omega), s_152_4]
      simp (disch := omega) only [s_152_0, s_152_1, s_152_2, s_152_3, s_152_5, s_152_6, s_152_9, s_152_10, s_152_11, s_152_14, s_152_15, s_152_16, s_152_17, s_152_18, r_152_18, s_152_21, s_152_22, s_152_25, s_152_26, s_152_29, s_152_30, s_152_31, s_152_32, s_152_35, s_152_38, s_152_39, jI_mul, jI_add, jI_tnc, jI_ixT, true_and, and_true, bZ_0, bZ_1, bZ_b, jI_nz, jI_div, jI_rem, jI_mod, Nat.add_zero, bI_if, not_false_iff, if_true, if_false, eq_self, MG_g, h4, jI_le, m_ofN]
      rw [if_neg (by omega)]
      have e : cntS (fun i => decide (g (75 + 9 * i) = v)) (i + 1) = if decide (g (75 + 9 * i) = v) = true then cntS (fun i => decide (g (75 + 9 * i) = v)) i + 1 else cntS (fun i => decide (g (75 + 9 * i) = v)) i := by
        unfold cntS; rw [itN_succ]
      rw [e]
      by_cases h : g (75 + 9 * i) = v <;> simp only [h, decide_true, decide_false, if_true, if_false, Bool.false_eq_true]
  rw [step nd (Nat.le_refl _), s_152_4]
  simp (disch := omega) only [s_152_0, s_152_1, s_152_2, s_152_3, s_152_5, s_152_6, s_152_9, s_152_10, s_152_11, s_152_14, s_152_15, s_152_16, s_152_17, s_152_18, r_152_18, s_152_21, s_152_22, s_152_25, s_152_26, s_152_29, s_152_30, s_152_31, s_152_32, s_152_35, s_152_38, s_152_39, jI_mul, jI_add, jI_tnc, jI_ixT, true_and, and_true, bZ_0, bZ_1, bZ_b, jI_nz, jI_div, jI_rem, jI_mod, Nat.add_zero, bI_if, not_false_iff, if_true, if_false, eq_self, MG_g, h4, jI_le, Nat.le_refl]
theorem m_anyDry (hnd : nd ≤ 12) (h4 : g 4 = jI nd) (F : (∀ i, i < nd → ¬ g (75 + 9 * i + 4) = jI 99) → K (.inl (some (.int (jI 0)))) (MM Ln (MG σ g) lo db))
    (H : ∀ i, i < nd → g (75 + 9 * i + 4) = jI 99 → K (.inl (some (.int (jI 1)))) (MM Ln (MG σ g) lo db)) : Ev 163 (0, [.ref 368, .null], [], 0, 0, MM Ln (MG σ g) lo db) K := by
  simp only [s_163_0, s_163_1, s_163_3, s_163_4, s_163_7, s_163_8, s_163_9, s_163_12, s_163_13, s_163_14, s_163_15, r_163_15, s_163_18, s_163_20, s_163_23, s_163_24, s_163_25, s_163_28, s_163_31, s_163_32]
  refine lup0 nd (fun i x => x = (2, [.ref 368, .int (jI i)], [], 0, 0, MM Ln (MG σ g) lo db) ∧ ∀ j, j < i → ¬ g (75 + 9 * j + 4) = jI 99) ⟨rfl, fun j hj => absurd hj (Nat.not_lt_zero j)⟩ ?_ ?_
  · rintro i x hi ⟨rfl, hno⟩ hn
    rw [s_163_2]
    simp (disch := omega) only [s_163_0, s_163_1, s_163_3, s_163_4, s_163_7, s_163_8, s_163_9, s_163_12, s_163_13, s_163_14, s_163_15, r_163_15, s_163_18, s_163_20, s_163_23, s_163_24, s_163_25, s_163_28, s_163_31, s_163_32, jI_mul, jI_add, jI_tnc, jI_ixT, true_and, and_true, bZ_0, bZ_1, bZ_b, jI_nz, jI_div, jI_rem, jI_mod, Nat.add_zero, bI_if, not_false_iff, if_true, if_false, eq_self, MG_g, h4, jI_le, m_ofN]
    rw [if_neg (by omega)]
    by_cases h1 : g (75 + 9 * i + 4) = jI 99
    · simp only [h1, if_true]
      exact H i hi h1
    · simp only [h1, if_false]
      refine hn _ ⟨rfl, fun j hj e => ?_⟩
      by_cases hji : j = i
      · subst hji; exact h1 e
      · exact hno j (by omega) e
  · rintro x ⟨rfl, hno⟩
    rw [s_163_2]
    simp (disch := omega) only [s_163_0, s_163_1, s_163_3, s_163_4, s_163_7, s_163_8, s_163_9, s_163_12, s_163_13, s_163_14, s_163_15, r_163_15, s_163_18, s_163_20, s_163_23, s_163_24, s_163_25, s_163_28, s_163_31, s_163_32, jI_mul, jI_add, jI_tnc, jI_ixT, true_and, and_true, bZ_0, bZ_1, bZ_b, jI_nz, jI_div, jI_rem, jI_mod, Nat.add_zero, bI_if, not_false_iff, if_true, if_false, eq_self, MG_g, h4, jI_le, Nat.le_refl]
    exact F hno
theorem m_error : Ev 174 (0, [.ref 368], [], 0, 0, MM Ln (MG σ g) lo db) K ↔ K (.inl (some (.int (σ 368 14)))) (MM Ln (MG (u2 σ 368 8 (jI 0)) g) lo db) := by
  have e : u2 σ 368 8 (jI 0) 368 14 = σ 368 14 := u2_nk (by decide)
  simp (disch := omega) only [s_174_0, s_174_1, s_174_2, s_174_5, s_174_6, s_174_9, jI_mul, jI_add, jI_tnc, jI_ixT, true_and, and_true, bZ_0, bZ_1, bZ_b, jI_nz, jI_div, jI_rem, jI_mod, Nat.add_zero, bI_if, not_false_iff, if_true, if_false, eq_self, MG_uo, MG_o, e]
theorem m_part {v w : Int32} (hng : ng ≤ 6) (h3 : g 3 = jI ng) (hnd : nd ≤ 12) (h4 : g 4 = jI nd) (F1 : ¬ (hs v nd ∧ hs w ng) → K (.inl (some (.int (jI 0)))) (MM Ln (MG (u2 σ 368 8 (jI 1)) g) lo db))
    (hz : ∀ k st, k < nd → st < ng → ¬ g (75 + 9 * k) < jI st → ¬ shS g nd (jI st) = jI 0)
    (H : ∀ k st, k < nd → v = jI k → st < ng → w = jI st → K (.inl (some (.int (ptS g nd k st)))) (MM Ln (MG (u2 σ 368 8 (jI 0)) g) lo db)) : Ev 160 (0, [.ref 368, .int v, .int w], [], 0, 0, MM Ln (MG σ g) lo db) K := by
  simp (disch := omega) only [s_160_0, s_160_1, s_160_2, s_160_3, r_160_3, s_160_6, s_160_9, s_160_10, s_160_11, r_160_11, s_160_14, s_160_17, s_160_18, s_160_21, s_160_22, r_160_22, s_160_25, s_160_28, s_160_29, s_160_32, s_160_33, s_160_34, s_160_35, r_160_35, s_160_38, jI_mul, jI_add, jI_tnc, jI_ixT, true_and, and_true, bZ_0, bZ_1, bZ_b, jI_nz, jI_div, jI_rem, jI_mod, Nat.add_zero, bI_if, not_false_iff, if_true, if_false, eq_self, MG_g, m_isGarden hnd h4, m_isGate hng h3]
  by_cases h1 : hs v nd
  · obtain ⟨k, hk, rfl⟩ := hs_of h1 hnd
    rw [if_pos h1]
    by_cases h2 : hs w ng
    · obtain ⟨st, hst, rfl⟩ := hs_of h2 (by omega)
      rw [if_pos h2]
      simp (disch := omega) only [s_160_0, s_160_1, s_160_2, s_160_3, r_160_3, s_160_6, s_160_9, s_160_10, s_160_11, r_160_11, s_160_14, s_160_17, s_160_18, s_160_21, s_160_22, r_160_22, s_160_25, s_160_28, s_160_29, s_160_32, s_160_33, s_160_34, s_160_35, r_160_35, s_160_38, jI_mul, jI_add, jI_tnc, jI_ixT, true_and, and_true, bZ_0, bZ_1, bZ_b, jI_nz, jI_div, jI_rem, jI_mod, Nat.add_zero, bI_if, not_false_iff, if_true, if_false, eq_self, m_fail0, m_partOf (show k < 12 by omega) (show st < 6 by omega) hnd h4 (hz k st hk hst)]
      exact H k st hk rfl hst rfl
    · rw [if_neg h2]
      simp (disch := omega) only [s_160_0, s_160_1, s_160_2, s_160_3, r_160_3, s_160_6, s_160_9, s_160_10, s_160_11, r_160_11, s_160_14, s_160_17, s_160_18, s_160_21, s_160_22, r_160_22, s_160_25, s_160_28, s_160_29, s_160_32, s_160_33, s_160_34, s_160_35, r_160_35, s_160_38, jI_mul, jI_add, jI_tnc, jI_ixT, true_and, and_true, bZ_0, bZ_1, bZ_b, jI_nz, jI_div, jI_rem, jI_mod, Nat.add_zero, bI_if, not_false_iff, if_true, if_false, eq_self, m_fail1]
      exact F1 (fun e => h2 e.2)
  · rw [if_neg h1]
    simp (disch := omega) only [s_160_0, s_160_1, s_160_2, s_160_3, r_160_3, s_160_6, s_160_9, s_160_10, s_160_11, r_160_11, s_160_14, s_160_17, s_160_18, s_160_21, s_160_22, r_160_22, s_160_25, s_160_28, s_160_29, s_160_32, s_160_33, s_160_34, s_160_35, r_160_35, s_160_38, jI_mul, jI_add, jI_tnc, jI_ixT, true_and, and_true, bZ_0, bZ_1, bZ_b, jI_nz, jI_div, jI_rem, jI_mod, Nat.add_zero, bI_if, not_false_iff, if_true, if_false, eq_self, m_fail1]
    exact F1 (fun e => h1 e.1)
end
