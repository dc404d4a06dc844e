/-! THE REFERENCE: dryIn -/
set_option maxRecDepth 16384
section
variable {K : Ou → Me → Prop} {Ln : Nat} {σ : Nat → Nat → Int32} {g : Gr} {lo : Nat → Nat → Int64} {db : Nat → Nat → UInt64} {μ : Me} {ch : Nat} {wi : Bool} {oh : Nat → Nat → Bool} {ng nd nc h : Nat}
theorem spare_back {n : Nat} {σ' : Nat → Nat → Int32} (hB : Bas g oh ng nd nc h) (f1 : FR (cpy (MG σ g) 369 0 373 0 199) σ') : cpy (MG σ' (hoursS oh ng nd nc h g n).1) 373 0 369 0 199 = MG σ' g := by
  have s1 : ∀ j, j < 199 → σ' 373 j = g j := by
    intro j hj
    rw [f1.1 373 (by decide) (by decide)]
    unfold cpy
    rw [if_pos (by omega)]
    show MG σ g 369 (0 + (j - 0)) = g j
    rw [MG_g]
    congr 1
    omega
  funext a j
  unfold cpy
  by_cases ha : a = 369 ∧ 0 ≤ j ∧ j < 0 + 199
  · rw [if_pos ha, MG_o (by decide), ha.1, MG_g]
    rw [show 0 + (j - 0) = j by omega]
    exact s1 j (by omega)
  · rw [if_neg ha]
    unfold MG
    by_cases h9 : a = 369
    · rw [if_pos h9, if_pos h9]
      exact hoursS_hi (by omega) hB n
    · rw [if_neg h9, if_neg h9]
def dry (g : Gr) (nd : Nat) : Prop := ∃ i, i < nd ∧ g (75 + 9 * i + 4) = jI 99
theorem m_dryIn (hB : Bas g oh ng nd nc h) (hh : h < 2000000000)
    (F : ∀ σ', (∀ n, n ≤ 200 → ¬ dry (hoursS oh ng nd nc h g n).1 nd) → FR (cpy (MG σ g) 369 0 373 0 199) σ' → K (.inl (some (.int (jI 0)))) (MM Ln (MG (u2 σ' 368 8 (jI 1)) g) lo db))
    (H : ∀ n σ', n ≤ 200 → dry (hoursS oh ng nd nc h g n).1 nd → (∀ j, j < n → ¬ dry (hoursS oh ng nd nc h g j).1 nd) → FR (cpy (MG σ g) 369 0 373 0 199) σ' → K (.inl (some (.int (jI n)))) (MM Ln (MG (u2 σ' 368 8 (jI 0)) g) lo db)) :
    Ev 164 (0, [.ref 368, .null], [], 0, 0, MM Ln (MG σ g) lo db) K := by
  have c1 : cpy (MG σ g) 369 0 373 0 199 = MG (cpy (MG σ g) 369 0 373 0 199) g := by
    have := MG_self (cpy (MG σ g) 369 0 373 0 199)
    rw [cpy_o (by decide), MG_gf] at this
    exact this.symm
  simp (disch := omega) only [s_164_0, s_164_1, s_164_4, s_164_5, s_164_6, s_164_9, s_164_10, r_164_10, s_164_13, s_164_14, s_164_16, s_164_19, s_164_22, s_164_23, r_164_23, s_164_26, s_164_29, s_164_30, r_164_30, s_164_33, s_164_36, s_164_39, s_164_40, s_164_43, s_164_44, s_164_45, s_164_48, s_164_49, r_164_49, s_164_52, s_164_53, s_164_54, s_164_57, s_164_60, s_164_61, s_164_64, s_164_65, r_164_65, s_164_68, s_164_71, s_164_72, s_164_75, s_164_76, jI_mul, jI_add, jI_tnc, jI_ixT, true_and, and_true, bZ_0, bZ_1, bZ_b, jI_nz, jI_div, jI_rem, jI_mod, Nat.add_zero, bI_if, not_false_iff, if_true, if_false, eq_self, m_copies KD_M0 KD_M4 (by decide : 369 ≠ 373) (by decide : 0 + 199 ≤ 199) (by decide : 0 + 199 ≤ 199) (by decide) (by decide)]
  rw [c1]
  refine lup0 201 (fun i x => ∃ σ', x = (15, [.ref 368, .int (jI i)], [], 0, 0, MM Ln (MG σ' (hoursS oh ng nd nc h g i).1) lo db) ∧ FR (cpy (MG σ g) 369 0 373 0 199) σ' ∧ ∀ j, j < i → ¬ dry (hoursS oh ng nd nc h g j).1 nd) ⟨_, rfl, FR.refl, fun j hj => absurd hj (Nat.not_lt_zero j)⟩ ?_ ?_
  · rintro i x hi ⟨σ', rfl, f1, hno⟩ hn
    have hBi := hoursS_bas hB i
    rw [s_164_15]
    simp (disch := omega) only [s_164_0, s_164_1, s_164_4, s_164_5, s_164_6, s_164_9, s_164_10, r_164_10, s_164_13, s_164_14, s_164_16, s_164_19, s_164_22, s_164_23, r_164_23, s_164_26, s_164_29, s_164_30, r_164_30, s_164_33, s_164_36, s_164_40, s_164_43, s_164_44, s_164_45, s_164_48, s_164_49, r_164_49, s_164_52, s_164_53, s_164_54, s_164_57, s_164_60, s_164_61, s_164_64, s_164_65, r_164_65, s_164_68, s_164_71, s_164_72, s_164_75, s_164_76, jI_mul, jI_add, jI_tnc, jI_ixT, true_and, and_true, bZ_0, bZ_1, bZ_b, jI_nz, jI_div, jI_rem, jI_mod, Nat.add_zero, bI_if, not_false_iff, if_true, if_false, eq_self, jI_lt]
    rw [if_neg (by omega)]
    refine m_anyDry hBi.2.1 hBi.2.2.2.2.2.1 (fun hd => ?_) (fun q hq hd => ?_)
    · simp (disch := omega) only [s_164_0, s_164_1, s_164_4, s_164_5, s_164_6, s_164_9, s_164_10, r_164_10, s_164_13, s_164_14, s_164_16, s_164_19, s_164_22, s_164_23, r_164_23, s_164_26, s_164_29, s_164_30, r_164_30, s_164_33, s_164_36, s_164_40, s_164_43, s_164_44, s_164_45, s_164_48, s_164_49, r_164_49, s_164_52, s_164_53, s_164_54, s_164_57, s_164_60, s_164_61, s_164_64, s_164_65, r_164_65, s_164_68, s_164_71, s_164_72, s_164_75, s_164_76, jI_mul, jI_add, jI_tnc, jI_ixT, true_and, and_true, bZ_0, bZ_1, bZ_b, jI_nz, jI_div, jI_rem, jI_mod, Nat.add_zero, bI_if, not_false_iff, if_true, if_false, eq_self]
      refine m_goesB hBi (by omega) ?_
      intro σ'' f2
      simp (disch := omega) only [s_164_0, s_164_1, s_164_4, s_164_5, s_164_6, s_164_9, s_164_10, r_164_10, s_164_13, s_164_14, s_164_16, s_164_19, s_164_22, s_164_23, r_164_23, s_164_26, s_164_29, s_164_30, r_164_30, s_164_33, s_164_36, s_164_40, s_164_43, s_164_44, s_164_45, s_164_48, s_164_49, r_164_49, s_164_52, s_164_53, s_164_54, s_164_57, s_164_60, s_164_61, s_164_64, s_164_65, r_164_65, s_164_68, s_164_71, s_164_72, s_164_75, s_164_76, jI_mul, jI_add, jI_tnc, jI_ixT, true_and, and_true, bZ_0, bZ_1, bZ_b, jI_nz, jI_div, jI_rem, jI_mod, Nat.add_zero, bI_if, not_false_iff, if_true, if_false, eq_self]
      refine hn _ ⟨σ'', rfl, f1.trans f2, fun j hj e => ?_⟩
      by_cases hji : j = i
      · subst hji
        obtain ⟨q, hq, e⟩ := e
        exact hd q hq e
      · exact hno j (by omega) e
    · simp (disch := omega) only [s_164_0, s_164_1, s_164_4, s_164_5, s_164_6, s_164_9, s_164_10, r_164_10, s_164_13, s_164_14, s_164_16, s_164_19, s_164_22, s_164_23, r_164_23, s_164_26, s_164_29, s_164_30, r_164_30, s_164_33, s_164_36, s_164_39, s_164_40, s_164_43, s_164_44, s_164_45, s_164_48, s_164_49, r_164_49, s_164_52, s_164_53, s_164_54, s_164_57, s_164_60, s_164_61, s_164_64, s_164_65, r_164_65, s_164_68, s_164_71, s_164_72, s_164_75, s_164_76, jI_mul, jI_add, jI_tnc, jI_ixT, true_and, and_true, bZ_0, bZ_1, bZ_b, jI_nz, jI_div, jI_rem, jI_mod, Nat.add_zero, bI_if, not_false_iff, if_true, if_false, eq_self, jI_le, m_copies KD_M4 KD_M0 (by decide : 373 ≠ 369) (by decide : 0 + 199 ≤ 199) (by decide : 0 + 199 ≤ 199) (by decide) (by decide), spare_back hB f1]
      rw [if_pos (by omega)]
      simp (disch := omega) only [s_164_0, s_164_1, s_164_4, s_164_5, s_164_6, s_164_9, s_164_10, r_164_10, s_164_13, s_164_14, s_164_16, s_164_19, s_164_22, s_164_23, r_164_23, s_164_26, s_164_29, s_164_30, r_164_30, s_164_33, s_164_36, s_164_39, s_164_40, s_164_43, s_164_44, s_164_45, s_164_48, s_164_49, r_164_49, s_164_52, s_164_53, s_164_54, s_164_57, s_164_60, s_164_61, s_164_64, s_164_65, r_164_65, s_164_68, s_164_71, s_164_72, s_164_75, s_164_76, jI_mul, jI_add, jI_tnc, jI_ixT, true_and, and_true, bZ_0, bZ_1, bZ_b, jI_nz, jI_div, jI_rem, jI_mod, Nat.add_zero, bI_if, not_false_iff, if_true, if_false, eq_self, m_fail0]
      exact H i σ' (by omega) ⟨q, hq, hd⟩ hno f1
  · rintro x ⟨σ', rfl, f1, hno⟩
    rw [s_164_15]
    have q1 : (jI 200 < jI 201) = True := eq_true (by decide)
    have q2 : (jI 201 ≤ jI 200) = False := eq_false (by decide)
    simp (disch := omega) only [s_164_0, s_164_1, s_164_4, s_164_5, s_164_6, s_164_9, s_164_10, r_164_10, s_164_13, s_164_14, s_164_16, s_164_19, s_164_22, s_164_23, r_164_23, s_164_26, s_164_29, s_164_30, r_164_30, s_164_33, s_164_36, s_164_39, s_164_40, s_164_43, s_164_44, s_164_45, s_164_48, s_164_49, r_164_49, s_164_52, s_164_53, s_164_54, s_164_57, s_164_60, s_164_61, s_164_64, s_164_65, r_164_65, s_164_68, s_164_71, s_164_72, s_164_75, s_164_76, jI_mul, jI_add, jI_tnc, jI_ixT, true_and, and_true, bZ_0, bZ_1, bZ_b, jI_nz, jI_div, jI_rem, jI_mod, Nat.add_zero, bI_if, not_false_iff, if_true, if_false, eq_self, q1, q2, m_copies KD_M4 KD_M0 (by decide : 373 ≠ 369) (by decide : 0 + 199 ≤ 199) (by decide : 0 + 199 ≤ 199) (by decide) (by decide), spare_back hB f1, m_fail1]
    exact F σ' (fun n hn => hno n (by omega)) f1
end
