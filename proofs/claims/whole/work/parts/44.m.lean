/-! THE REFERENCE: open -/
set_option maxRecDepth 16384
section
variable {K : Ou → Me → Prop} {Ln : Nat} {σ : Nat → Nat → Int32} {g : Gr} {lo : Nat → Nat → Int64} {db : Nat → Nat → UInt64} {μ : Me} {ch : Nat} {wi : Bool} {oh : Nat → Nat → Bool} {ng nd nc h : Nat}
def opN (g : Gr) (k a : Nat) (p : Bool) (n : Nat) : Gr := itN n (fun i g => opS g k (a + i) p) g
/-- from a, n hours -/
def ohR (oh : Nat → Nat → Bool) (k a : Nat) (p : Bool) (n : Nat) : Nat → Nat → Bool := fun i y => if i = k ∧ a ≤ y ∧ y < a + n then p else oh i y
theorem ohR_0 {k a : Nat} {p : Bool} : ohR oh k a p 0 = oh := by
  funext i y
  unfold ohR
  rw [if_neg (by omega)]
theorem ohR_s {k a n : Nat} {p : Bool} : ohU (ohR oh k a p n) k (a + n) p = ohR oh k a p (n + 1) := by
  funext i y
  unfold ohU ohR
  by_cases h1 : i = k ∧ y = a + n
  · rw [if_pos h1, if_pos (by omega)]
  · rw [if_neg h1]
    by_cases h2 : i = k ∧ a ≤ y ∧ y < a + n
    · rw [if_pos h2, if_pos (by omega)]
    · rw [if_neg h2, if_neg (by omega)]
theorem opN_oh {k a : Nat} {p : Bool} (hO : OHm g oh) : ∀ n, a + n ≤ 168 → OHm (opN g k a p n) (ohR oh k a p n)
  | 0, _ => by rw [ohR_0]; exact hO
  | n + 1, h => by
    have := opS_oh (k := k) (x := a + n) (p := p) (by omega) (opN_oh (k := k) (a := a) (p := p) hO n (by omega))
    rw [ohR_s] at this
    exact this
theorem opN_o {k a j : Nat} {p : Bool} (hj : j < 15 ∨ 75 ≤ j ∨ (j - 15) % 10 < 4) (hk : k < 6) : ∀ n, a + n ≤ 168 → opN g k a p n j = g j
  | 0, _ => rfl
  | n + 1, h => by
    have e : opN g k a p (n + 1) = opS (opN g k a p n) k (a + n) p := rfl
    rw [e]
    unfold opS
    rw [gu_ne (by omega)]
    exact opN_o hj hk n (by omega)
theorem m_open {v x y : Int32} {p : Bool} (hng : ng ≤ 6) (h3 : g 3 = jI ng) (hO : OHm g oh) (hw : σ 368 7 = bI (wi = true)) (hc : σ 368 6 = jI ch) (hch : ch ≤ 8)
    (F1 : ¬ hs v ng → K (.inl (some (.int (jI 0)))) (MM Ln (MG (u2 σ 368 8 (jI 1)) g) lo db))
    (F2 : hs v ng → ¬ (rng x 0 167 ∧ ¬ y < x ∧ ¬ jI 167 < y) → K (.inl (some (.int (jI 0)))) (MM Ln (MG (u2 σ 368 8 (jI 2)) g) lo db))
    (H : ∀ k a n, k < ng → v = jI k → x = jI a → y = jI (a + n) → a + n < 168 → K (.inl (some (.int (jI (cntO (ohR oh k a p (n + 1)) k))))) (MM Ln (MG (KB σ g ch wi) (opN g k a p (n + 1))) lo db)) :
    Ev 131 (0, [.ref 368, .int v, .int x, .int y, .int (bI (p = true)), .null], [], 0, 0, MM Ln (MG σ g) lo db) K := by
  simp (disch := omega) only [s_131_0, s_131_1, s_131_2, s_131_3, r_131_3, s_131_6, s_131_9, s_131_10, s_131_13, s_131_14, s_131_15, s_131_18, r_131_18, s_131_21, s_131_24, s_131_25, s_131_26, s_131_29, r_131_29, s_131_32, s_131_35, s_131_36, s_131_39, s_131_40, r_131_40, s_131_43, s_131_46, s_131_47, s_131_49, s_131_50, s_131_53, r_131_53, s_131_56, s_131_57, s_131_61, s_131_62, s_131_65, s_131_66, s_131_67, s_131_69, s_131_71, r_131_71, s_131_74, s_131_77, s_131_80, s_131_81, s_131_82, r_131_82, s_131_85, jI_mul, jI_add, jI_tnc, jI_ixT, true_and, and_true, bZ_0, bZ_1, bZ_b, jI_nz, jI_div, jI_rem, jI_mod, Nat.add_zero, bI_if, not_false_iff, if_true, if_false, eq_self, MG_g, m_in, m_isGate hng h3]
  by_cases h1 : hs v ng
  · obtain ⟨k, hk, rfl⟩ := hs_of h1 (by omega)
    rw [if_pos h1]
    by_cases h2 : rng x 0 167
    · rw [if_pos h2]
      by_cases h4 : ¬ y < x ∧ ¬ jI 167 < y
      · rw [if_pos h4]
        obtain ⟨a, ha, rfl⟩ := jI_of (v := x) (Int32.not_lt.mp h2.1)
        obtain ⟨b, hb, rfl⟩ := jI_of (v := y) (Int32.le_trans (Int32.not_lt.mp h2.1) (Int32.not_lt.mp h4.1))
        have q1 := h4.1
        have q2 := h4.2
        rw [jI_lt hb ha] at q1
        rw [jI_lt (by decide) hb] at q2
        obtain ⟨n, rfl⟩ : ∃ n, b = a + n := ⟨b - a, by omega⟩
        have H := H k a n hk rfl rfl rfl (by omega)
        simp (disch := omega) only [s_131_0, s_131_1, s_131_2, s_131_3, r_131_3, s_131_6, s_131_9, s_131_10, s_131_13, s_131_14, s_131_15, s_131_18, r_131_18, s_131_21, s_131_24, s_131_25, s_131_26, s_131_29, r_131_29, s_131_32, s_131_35, s_131_36, s_131_39, s_131_40, r_131_40, s_131_43, s_131_46, s_131_47, s_131_48, s_131_49, s_131_50, s_131_53, r_131_53, s_131_56, s_131_57, s_131_61, s_131_62, s_131_65, s_131_66, s_131_67, s_131_69, s_131_71, r_131_71, s_131_74, s_131_77, s_131_80, s_131_81, s_131_82, r_131_82, s_131_85, jI_mul, jI_add, jI_tnc, jI_ixT, true_and, and_true, bZ_0, bZ_1, bZ_b, jI_nz, jI_div, jI_rem, jI_mod, Nat.add_zero, bI_if, not_false_iff, if_true, if_false, eq_self, m_fail0, m_keepsC hw hc hch]
        refine lup0 (n + 1) (fun i x => x = (59, [.ref 368, .int (jI k), .int (jI a), .int (jI (a + n)), .int (bI (p = true)), .int (jI (a + i))], [], 0, 0, MM Ln (MG (KB σ g ch wi) (opN g k a p i)) lo db)) rfl ?_ ?_
        · rintro i x hi rfl hn
          have hn := hn _ rfl
          rw [s_131_59]
          simp (disch := omega) only [s_131_0, s_131_1, s_131_2, s_131_3, r_131_3, s_131_6, s_131_9, s_131_10, s_131_13, s_131_14, s_131_15, s_131_18, r_131_18, s_131_21, s_131_24, s_131_25, s_131_26, s_131_29, r_131_29, s_131_32, s_131_35, s_131_36, s_131_39, s_131_40, r_131_40, s_131_43, s_131_46, s_131_47, s_131_48, s_131_49, s_131_50, s_131_53, r_131_53, s_131_56, s_131_57, s_131_61, s_131_62, s_131_65, s_131_66, s_131_67, s_131_69, s_131_71, r_131_71, s_131_74, s_131_77, s_131_80, s_131_81, s_131_82, r_131_82, s_131_85, jI_mul, jI_add, jI_tnc, jI_ixT, true_and, and_true, bZ_0, bZ_1, bZ_b, jI_nz, jI_div, jI_rem, jI_mod, Nat.add_zero, bI_if, not_false_iff, if_true, if_false, eq_self, jI_lt, m_opens]
          rw [if_neg (by omega)]
          exact hn
        · rintro x rfl
          rw [s_131_59]
          simp (disch := omega) only [s_131_0, s_131_1, s_131_2, s_131_3, r_131_3, s_131_6, s_131_9, s_131_10, s_131_13, s_131_14, s_131_15, s_131_18, r_131_18, s_131_21, s_131_24, s_131_25, s_131_26, s_131_29, r_131_29, s_131_32, s_131_35, s_131_36, s_131_39, s_131_40, r_131_40, s_131_43, s_131_46, s_131_47, s_131_48, s_131_49, s_131_50, s_131_53, r_131_53, s_131_56, s_131_57, s_131_61, s_131_62, s_131_66, s_131_67, s_131_69, s_131_71, r_131_71, s_131_74, s_131_77, s_131_80, s_131_81, s_131_82, r_131_82, s_131_85, jI_mul, jI_add, jI_tnc, jI_ixT, true_and, and_true, bZ_0, bZ_1, bZ_b, jI_nz, jI_div, jI_rem, jI_mod, Nat.add_zero, bI_if, not_false_iff, if_true, if_false, eq_self, jI_lt, m_openHours (show k < 6 by omega) (opN_oh (k := k) (a := a) (p := p) hO (n + 1) (by omega))]
          rw [if_pos (by omega)]
          exact H
      · rw [if_neg h4]
        simp (disch := omega) only [s_131_0, s_131_1, s_131_2, s_131_3, r_131_3, s_131_6, s_131_9, s_131_10, s_131_13, s_131_14, s_131_15, s_131_18, r_131_18, s_131_21, s_131_24, s_131_25, s_131_26, s_131_29, r_131_29, s_131_32, s_131_35, s_131_36, s_131_39, s_131_40, r_131_40, s_131_43, s_131_46, s_131_47, s_131_48, s_131_49, s_131_50, s_131_53, r_131_53, s_131_56, s_131_57, s_131_61, s_131_62, s_131_65, s_131_66, s_131_67, s_131_69, s_131_71, r_131_71, s_131_74, s_131_77, s_131_80, s_131_81, s_131_82, r_131_82, s_131_85, jI_mul, jI_add, jI_tnc, jI_ixT, true_and, and_true, bZ_0, bZ_1, bZ_b, jI_nz, jI_div, jI_rem, jI_mod, Nat.add_zero, bI_if, not_false_iff, if_true, if_false, eq_self, m_fail1]
        exact F2 h1 (fun e => h4 e.2)
    · rw [if_neg h2]
      simp (disch := omega) only [s_131_0, s_131_1, s_131_2, s_131_3, r_131_3, s_131_6, s_131_9, s_131_10, s_131_13, s_131_14, s_131_15, s_131_18, r_131_18, s_131_21, s_131_24, s_131_25, s_131_26, s_131_29, r_131_29, s_131_32, s_131_35, s_131_36, s_131_39, s_131_40, r_131_40, s_131_43, s_131_46, s_131_47, s_131_48, s_131_49, s_131_50, s_131_53, r_131_53, s_131_56, s_131_57, s_131_61, s_131_62, s_131_65, s_131_66, s_131_67, s_131_69, s_131_71, r_131_71, s_131_74, s_131_77, s_131_80, s_131_81, s_131_82, r_131_82, s_131_85, jI_mul, jI_add, jI_tnc, jI_ixT, true_and, and_true, bZ_0, bZ_1, bZ_b, jI_nz, jI_div, jI_rem, jI_mod, Nat.add_zero, bI_if, not_false_iff, if_true, if_false, eq_self, m_fail1]
      exact F2 h1 (fun e => h2 e.1)
  · rw [if_neg h1]
    simp (disch := omega) only [s_131_0, s_131_1, s_131_2, s_131_3, r_131_3, s_131_6, s_131_9, s_131_10, s_131_13, s_131_14, s_131_15, s_131_18, r_131_18, s_131_21, s_131_24, s_131_25, s_131_26, s_131_29, r_131_29, s_131_32, s_131_35, s_131_36, s_131_39, s_131_40, r_131_40, s_131_43, s_131_46, s_131_47, s_131_48, s_131_49, s_131_50, s_131_53, r_131_53, s_131_56, s_131_57, s_131_61, s_131_62, s_131_65, s_131_66, s_131_67, s_131_69, s_131_71, r_131_71, s_131_74, s_131_77, s_131_80, s_131_81, s_131_82, r_131_82, s_131_85, jI_mul, jI_add, jI_tnc, jI_ixT, true_and, and_true, bZ_0, bZ_1, bZ_b, jI_nz, jI_div, jI_rem, jI_mod, Nat.add_zero, bI_if, not_false_iff, if_true, if_false, eq_self, m_fail1]
    exact F1 h1
end
