/-! THE REFERENCE: nextOpen, isWell -/
set_option maxRecDepth 16384
section
variable {K : Ou → Me → Prop} {Ln : Nat} {σ : Nat → Nat → Int32} {g : Gr} {lo : Nat → Nat → Int64} {db : Nat → Nat → UInt64} {μ : Me} {ch : Nat} {wi : Bool} {oh : Nat → Nat → Bool} {ng nd nc h : Nat}
theorem cntS_s {p : Nat → Bool} {n : Nat} : cntS p (n + 1) = if p n = true then cntS p n + 1 else cntS p n := by
  unfold cntS; rw [itN_succ]
theorem cntS_le {p : Nat → Bool} : ∀ n, cntS p n ≤ n
  | 0 => Nat.le_refl 0
  | n + 1 => by
    have := cntS_le (p := p) n
    rw [cntS_s]
    split <;> omega
theorem cntS_none {p : Nat → Bool} : ∀ n, (∀ i, i < n → ¬ p i = true) → cntS p n = 0
  | 0, _ => rfl
  | n + 1, h => by rw [cntS_s, if_neg (h n (by omega))]; exact cntS_none n (fun i hi => h i (by omega))
theorem m_nextOpen {v : Int32} (hB : Bas g oh ng nd nc h) (hh : h < 2000000000) (F1 : ¬ hs v ng → K (.inl (some (.int (jI 0)))) (MM Ln (MG (u2 σ 368 8 (jI 1)) g) lo db))
    (F2 : ∀ k, k < ng → v = jI k → (∀ n, n < 168 → ¬ oh k ((h + n) % 168) = true) → K (.inl (some (.int (jI 0)))) (MM Ln (MG (u2 σ 368 8 (jI 2)) g) lo db))
    (H : ∀ k n, k < ng → v = jI k → n < 168 → oh k ((h + n) % 168) = true → (∀ j, j < n → ¬ oh k ((h + j) % 168) = true) → K (.inl (some (.int (jI (h + n))))) (MM Ln (MG (u2 σ 368 8 (jI 0)) g) lo db)) : Ev 154 (0, [.ref 368, .int v, .null], [], 0, 0, MM Ln (MG σ g) lo db) K := by
  obtain ⟨b1, b2, b3, b4, b5, b6, b7, b8, b9⟩ := hB
  simp (disch := omega) only [s_154_0, s_154_1, s_154_2, s_154_3, r_154_3, s_154_6, s_154_9, s_154_10, s_154_13, s_154_14, s_154_15, r_154_15, s_154_18, s_154_21, s_154_22, s_154_25, s_154_26, r_154_26, s_154_29, s_154_32, s_154_33, s_154_34, s_154_35, s_154_38, s_154_39, s_154_40, s_154_42, s_154_43, s_154_44, s_154_47, s_154_48, r_154_48, s_154_51, s_154_54, s_154_57, s_154_60, s_154_61, jI_mul, jI_add, jI_tnc, jI_ixT, true_and, and_true, bZ_0, bZ_1, bZ_b, jI_nz, jI_div, jI_rem, jI_mod, Nat.add_zero, bI_if, not_false_iff, if_true, if_false, eq_self, MG_g, m_isGate b1 b5]
  by_cases h1 : hs v ng
  · obtain ⟨k, hk, rfl⟩ := hs_of h1 (by omega)
    rw [if_pos h1]
    have hle := cntS_le (p := fun x => oh k x) 168
    simp (disch := omega) only [s_154_0, s_154_1, s_154_2, s_154_3, r_154_3, s_154_6, s_154_9, s_154_10, s_154_13, s_154_14, s_154_15, r_154_15, s_154_18, s_154_21, s_154_22, s_154_25, s_154_29, s_154_32, s_154_33, s_154_34, s_154_35, s_154_38, s_154_39, s_154_40, s_154_42, s_154_43, s_154_44, s_154_47, s_154_48, r_154_48, s_154_51, s_154_54, s_154_57, s_154_60, s_154_61, jI_mul, jI_add, jI_tnc, jI_ixT, true_and, and_true, bZ_0, bZ_1, bZ_b, jI_nz, jI_div, jI_rem, jI_mod, Nat.add_zero, bI_if, not_false_iff, if_true, if_false, eq_self, m_openHours (show k < 6 by omega) b8]
    by_cases h2 : cntO oh k = 0
    · rw [h2, if_pos rfl]
      simp (disch := omega) only [s_154_0, s_154_1, s_154_2, s_154_3, r_154_3, s_154_6, s_154_9, s_154_10, s_154_13, s_154_14, s_154_15, r_154_15, s_154_18, s_154_21, s_154_22, s_154_25, s_154_26, r_154_26, s_154_29, s_154_32, s_154_33, s_154_34, s_154_35, s_154_38, s_154_39, s_154_40, s_154_42, s_154_43, s_154_44, s_154_47, s_154_48, r_154_48, s_154_51, s_154_54, s_154_57, s_154_60, s_154_61, jI_mul, jI_add, jI_tnc, jI_ixT, true_and, and_true, bZ_0, bZ_1, bZ_b, jI_nz, jI_div, jI_rem, jI_mod, Nat.add_zero, bI_if, not_false_iff, if_true, if_false, eq_self, m_fail1]
      refine F2 k hk rfl (fun n hn e => ?_)
      have : ∀ n x, x < n → oh k x = true → 0 < cntS (fun x => oh k x) n := by
        intro n
        induction n with
        | zero => intro x hx; omega
        | succ n ih =>
          intro x hx hox
          rw [cntS_s]
          by_cases hxn : x = n
          · subst hxn; rw [if_pos hox]; omega
          · have := ih x (by omega) hox
            split <;> omega
      have := this 168 _ (Nat.mod_lt _ (by decide)) e
      unfold cntO at h2
      omega
    · rw [if_neg (fun e => h2 ((jI_inj (by unfold cntO; omega) (by omega)).mp e))]
      simp (disch := omega) only [s_154_0, s_154_1, s_154_2, s_154_3, r_154_3, s_154_6, s_154_9, s_154_10, s_154_13, s_154_14, s_154_15, r_154_15, s_154_18, s_154_21, s_154_22, s_154_25, s_154_26, r_154_26, s_154_29, s_154_32, s_154_33, s_154_34, s_154_35, s_154_38, s_154_39, s_154_40, s_154_42, s_154_43, s_154_44, s_154_47, s_154_48, r_154_48, s_154_51, s_154_54, s_154_57, s_154_60, s_154_61, jI_mul, jI_add, jI_tnc, jI_ixT, true_and, and_true, bZ_0, bZ_1, bZ_b, jI_nz, jI_div, jI_rem, jI_mod, Nat.add_zero, bI_if, not_false_iff, if_true, if_false, eq_self, m_fail0, MG_g, b4]
      refine lup0 168 (fun i x => x = (41, [.ref 368, .int (jI k), .int (jI (h + i))], [], 0, 0, MM Ln (MG (u2 σ 368 8 (jI 0)) g) lo db) ∧ ∀ j, j < i → ¬ oh k ((h + j) % 168) = true) ⟨rfl, fun j hj => absurd hj (Nat.not_lt_zero j)⟩ ?_ ?_
      · rintro i x hi ⟨rfl, hno⟩ hn
        rw [s_154_41]
        simp (disch := omega) only [s_154_0, s_154_1, s_154_2, s_154_3, r_154_3, s_154_6, s_154_9, s_154_10, s_154_13, s_154_14, s_154_15, r_154_15, s_154_18, s_154_21, s_154_22, s_154_25, s_154_26, r_154_26, s_154_29, s_154_32, s_154_33, s_154_34, s_154_35, s_154_38, s_154_39, s_154_40, s_154_42, s_154_43, s_154_44, s_154_47, s_154_48, r_154_48, s_154_51, s_154_54, s_154_57, s_154_60, s_154_61, jI_mul, jI_add, jI_tnc, jI_ixT, true_and, and_true, bZ_0, bZ_1, bZ_b, jI_nz, jI_div, jI_rem, jI_mod, Nat.add_zero, bI_if, not_false_iff, if_true, if_false, eq_self, m_openS b8]
        by_cases q : oh k ((h + i) % 168) = true
        · rw [if_pos q]
          exact H k i hk rfl hi q hno
        · rw [if_neg q]
          refine hn _ ⟨rfl, fun j hj e => ?_⟩
          by_cases hji : j = i
          · subst hji; exact q e
          · exact hno j (by omega) e
      · rintro x ⟨rfl, hno⟩
        exfalso
        apply h2
        refine cntS_none 168 (fun x hx e => ?_)
        refine hno ((x + 168 - h % 168) % 168) (Nat.mod_lt _ (by decide)) ?_
        rw [show (h + (x + 168 - h % 168) % 168) % 168 = x by omega]
        exact e
  · rw [if_neg h1]
    simp (disch := omega) only [s_154_0, s_154_1, s_154_2, s_154_3, r_154_3, s_154_6, s_154_9, s_154_10, s_154_13, s_154_14, s_154_15, r_154_15, s_154_18, s_154_21, s_154_22, s_154_25, s_154_26, r_154_26, s_154_29, s_154_32, s_154_33, s_154_34, s_154_35, s_154_38, s_154_39, s_154_40, s_154_42, s_154_43, s_154_44, s_154_47, s_154_48, r_154_48, s_154_51, s_154_54, s_154_57, s_154_60, s_154_61, jI_mul, jI_add, jI_tnc, jI_ixT, true_and, and_true, bZ_0, bZ_1, bZ_b, jI_nz, jI_div, jI_rem, jI_mod, Nat.add_zero, bI_if, not_false_iff, if_true, if_false, eq_self, m_fail1]
    exact F1 h1
end
