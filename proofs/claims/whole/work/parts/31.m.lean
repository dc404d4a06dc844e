/-! THE REFERENCE: its small methods -/
set_option maxRecDepth 16384
section
variable {K : Ou → Me → Prop} {Ln : Nat} {σ : Nat → Nat → Int32} {g : Gr} {lo : Nat → Nat → Int64} {db : Nat → Nat → UInt64} {μ : Me}
theorem m_in {v l h : Int32} : Ev 113 (0, [.int v, .int l, .int h], [], 0, 0, MM Ln σ lo db) K ↔ K (.inl (some (.int (bI (¬ v < l ∧ ¬ h < v))))) (MM Ln σ lo db) := by
  simp only [s_113_0, s_113_1, s_113_2, s_113_5, s_113_6, s_113_7, s_113_10, s_113_11, s_113_14, s_113_15, jI_mul, jI_add, jI_tnc, jI_ixT, true_and, and_true, bZ_0, bZ_1, bZ_b, jI_nz, jI_div, jI_rem, jI_mod, Nat.add_zero, bI_if, not_false_iff, if_true, if_false, eq_self]
  unfold bI
  by_cases h1 : v < l <;> by_cases h2 : h < v <;> simp only [h1, h2, if_true, if_false, not_true, not_false_iff, and_true, and_false, true_and]
theorem m_less {a b : Int32} : Ev 114 (0, [.int a, .int b], [], 0, 0, MM Ln σ lo db) K ↔ K (.inl (some (.int (mn a b)))) (MM Ln σ lo db) := by
  simp only [s_114_0, s_114_1, s_114_2, s_114_5, s_114_6, s_114_9, s_114_10, jI_mul, jI_add, jI_tnc, jI_ixT, true_and, and_true, bZ_0, bZ_1, bZ_b, jI_nz, jI_div, jI_rem, jI_mod, Nat.add_zero, bI_if, not_false_iff, if_true, if_false, eq_self]
  unfold mn
  by_cases h1 : a < b <;> by_cases h2 : b ≤ a
  · rw [Int32.lt_iff_toInt_lt] at h1; rw [Int32.le_iff_toInt_le] at h2; omega
  · simp only [if_pos h1, if_neg h2]
  · simp only [if_neg h1, if_pos h2]
  · rw [Int32.lt_iff_toInt_lt] at h1; rw [Int32.le_iff_toInt_le] at h2; omega
theorem m_up {a b : Int32} (hb : ¬ b = jI 0) : Ev 115 (0, [.int a, .int b], [], 0, 0, MM Ln σ lo db) K ↔ K (.inl (some (.int ((a + b - jI 1) / b)))) (MM Ln σ lo db) := by
  simp only [s_115_0, s_115_1, s_115_2, s_115_3, s_115_4, s_115_5, s_115_6, s_115_7, jI_mul, jI_add, jI_tnc, jI_ixT, true_and, and_true, bZ_0, bZ_1, bZ_b, jI_nz, jI_div, jI_rem, jI_mod, Nat.add_zero, bI_if, not_false_iff, if_true, if_false, eq_self, hb, not_false_iff]
theorem m_up100 {a : Int32} : Ev 115 (0, [.int a, .int (jI 100)], [], 0, 0, MM Ln σ lo db) K ↔ K (.inl (some (.int ((a + jI 100 - jI 1) / jI 100)))) (MM Ln σ lo db) := m_up (by decide)
theorem m_ofG {k w : Nat} (hk : k < 6) (hw : w < 10) : Ev 120 (0, [.ref 368, .int (jI k), .int (jI w)], [], 0, 0, MM Ln (MG σ g) lo db) K ↔ K (.inl (some (.int (g (15 + 10 * k + w))))) (MM Ln (MG σ g) lo db) := by
  simp (disch := omega) only [s_120_0, s_120_1, s_120_4, s_120_6, s_120_8, s_120_9, s_120_10, s_120_11, s_120_12, s_120_13, s_120_14, jI_mul, jI_add, jI_tnc, jI_ixT, true_and, and_true, bZ_0, bZ_1, bZ_b, jI_nz, jI_div, jI_rem, jI_mod, Nat.add_zero, bI_if, not_false_iff, if_true, if_false, eq_self, MG_g]
theorem m_adds {k w : Nat} {v : Int32} (hk : k < 6) (hw : w < 10) : Ev 121 (0, [.ref 368, .int (jI k), .int (jI w), .int v], [], 0, 0, MM Ln (MG σ g) lo db) K ↔ K (.inl none) (MM Ln (MG σ (gu g (15 + 10 * k + w) (g (15 + 10 * k + w) + v))) lo db) := by
  simp (disch := omega) only [s_121_0, s_121_1, s_121_4, s_121_6, s_121_8, s_121_9, s_121_10, s_121_11, s_121_12, s_121_13, s_121_14, s_121_15, s_121_16, s_121_17, s_121_18, jI_mul, jI_add, jI_tnc, jI_ixT, true_and, and_true, bZ_0, bZ_1, bZ_b, jI_nz, jI_div, jI_rem, jI_mod, Nat.add_zero, bI_if, not_false_iff, if_true, if_false, eq_self, MG_g, MG_u]
theorem m_ofN {k w : Nat} (hk : k < 12) (hw : w < 9) : Ev 122 (0, [.ref 368, .int (jI k), .int (jI w)], [], 0, 0, MM Ln (MG σ g) lo db) K ↔ K (.inl (some (.int (g (75 + 9 * k + w))))) (MM Ln (MG σ g) lo db) := by
  simp (disch := omega) only [s_122_0, s_122_1, s_122_4, s_122_6, s_122_8, s_122_9, s_122_10, s_122_11, s_122_12, s_122_13, s_122_14, jI_mul, jI_add, jI_tnc, jI_ixT, true_and, and_true, bZ_0, bZ_1, bZ_b, jI_nz, jI_div, jI_rem, jI_mod, Nat.add_zero, bI_if, not_false_iff, if_true, if_false, eq_self, MG_g]
theorem m_lays {k w : Nat} {v : Int32} (hk : k < 12) (hw : w < 9) : Ev 123 (0, [.ref 368, .int (jI k), .int (jI w), .int v], [], 0, 0, MM Ln (MG σ g) lo db) K ↔ K (.inl none) (MM Ln (MG σ (gu g (75 + 9 * k + w) v)) lo db) := by
  simp (disch := omega) only [s_123_0, s_123_1, s_123_4, s_123_6, s_123_8, s_123_9, s_123_10, s_123_11, s_123_12, s_123_13, s_123_14, s_123_15, jI_mul, jI_add, jI_tnc, jI_ixT, true_and, and_true, bZ_0, bZ_1, bZ_b, jI_nz, jI_div, jI_rem, jI_mod, Nat.add_zero, bI_if, not_false_iff, if_true, if_false, eq_self, MG_g, MG_u]
theorem m_drinks {k : Nat} {v : Int32} (hk : k < 12) : Ev 143 (0, [.ref 368, .int (jI k), .int v, .null], [], 0, 0, MM Ln (MG σ g) lo db) K ↔ K (.inl (some (.int (drS g k v)))) (MM Ln (MG σ (gu g (75 + 9 * k + 4) (g (75 + 9 * k + 4) - drS g k v))) lo db) := by
  simp (disch := omega) only [s_143_0, s_143_1, s_143_2, s_143_3, s_143_4, s_143_5, r_143_5, s_143_8, s_143_9, s_143_10, s_143_11, s_143_12, r_143_12, s_143_15, r_143_15, s_143_18, r_143_18, s_143_21, s_143_22, s_143_23, s_143_24, s_143_25, s_143_26, s_143_27, s_143_28, r_143_28, s_143_31, s_143_32, s_143_33, r_143_33, s_143_36, s_143_37, jI_mul, jI_add, jI_tnc, jI_ixT, true_and, and_true, bZ_0, bZ_1, bZ_b, jI_nz, jI_div, jI_rem, jI_mod, Nat.add_zero, bI_if, not_false_iff, if_true, if_false, eq_self, MG_g, m_ofN, m_less, m_lays, drS]
theorem m_ahead {a b : Nat} (ha : a < 12) (hb : b < 12) : Ev 141 (0, [.ref 368, .int (jI a), .int (jI b)], [], 0, 0, MM Ln (MG σ g) lo db) K ↔ K (.inl (some (.int (bI (ahd g a b))))) (MM Ln (MG σ g) lo db) := by
  simp (disch := omega) only [s_141_0, s_141_1, s_141_2, s_141_3, r_141_3, s_141_6, s_141_7, s_141_8, s_141_9, r_141_9, s_141_12, s_141_15, s_141_16, s_141_17, s_141_18, r_141_18, s_141_21, s_141_22, s_141_23, s_141_24, r_141_24, s_141_27, s_141_30, s_141_31, s_141_34, s_141_35, s_141_36, s_141_37, s_141_38, s_141_39, r_141_39, s_141_42, s_141_43, s_141_44, s_141_45, r_141_45, s_141_48, s_141_51, s_141_52, s_141_53, s_141_54, r_141_54, s_141_57, s_141_58, s_141_59, s_141_60, r_141_60, s_141_63, s_141_66, s_141_67, s_141_70, s_141_71, s_141_74, s_141_75, s_141_76, s_141_79, s_141_80, s_141_83, s_141_84, jI_mul, jI_add, jI_tnc, jI_ixT, true_and, and_true, bZ_0, bZ_1, bZ_b, jI_nz, jI_div, jI_rem, jI_mod, Nat.add_zero, bI_if, not_false_iff, if_true, if_false, eq_self, MG_g, m_ofN, jI_lt, jI_le]
  unfold bI
  simp only [ahd, ← Int32.not_lt, ← Nat.not_lt]
  by_cases h1 : g (75 + 9 * a + 4) = g (75 + 9 * b + 4)
  · simp only [h1, Int32.lt_irrefl, if_true, false_or, true_and]
    by_cases h2 : g (75 + 9 * a + 2) = g (75 + 9 * b + 2)
    · simp only [h2, Int32.lt_irrefl, if_true, false_or, true_and]
      by_cases h3 : a < b <;> simp only [h3, not_true, not_false_iff, if_true, if_false]
    · simp only [h2, if_false, false_and, or_false]
      by_cases h3 : g (75 + 9 * b + 2) < g (75 + 9 * a + 2) <;> simp only [h3, not_true, not_false_iff, if_true, if_false]
  · simp only [h1, if_false, false_and, or_false]
    by_cases h3 : g (75 + 9 * b + 4) < g (75 + 9 * a + 4) <;> simp only [h3, not_true, not_false_iff, if_true, if_false]
/-- what the order's row may change -/
def FR (σ σ' : Nat → Nat → Int32) : Prop := (∀ a, a ≠ 375 → a ≠ 368 → σ' a = σ a) ∧ ∀ k, k ≠ 16 → σ' 368 k = σ 368 k
theorem FR.refl {σ : Nat → Nat → Int32} : FR σ σ := ⟨fun _ _ _ => rfl, fun _ _ => rfl⟩
theorem FR.trans {σ σ' σ'' : Nat → Nat → Int32} (h : FR σ σ') (h' : FR σ' σ'') : FR σ σ'' :=
  ⟨fun a h1 h2 => (h'.1 a h1 h2).trans (h.1 a h1 h2), fun k hk => (h'.2 k hk).trans (h.2 k hk)⟩
theorem FR.row {σ : Nat → Nat → Int32} {j : Nat} {v : Int32} : FR σ (u2 σ 375 j v) :=
  ⟨fun a h1 _ => by funext k; exact u2_na h1, fun k _ => u2_na (by decide)⟩
theorem FR.many {σ : Nat → Nat → Int32} {v : Int32} : FR σ (u2 σ 368 16 v) :=
  ⟨fun a _ h2 => by funext k; exact u2_na h2, fun k hk => u2_nk hk⟩
theorem m_ins {k c B : Nat} {gt : Int32} (hk : k < 12) (hc : c < 12) (hB : B ≤ 12) : ∀ (p : Nat) (r : Nat → Nat) (σ : Nat → Nat → Int32), p ≤ c → (∀ j, j ≤ c → j ≠ p → σ 375 j = jI (r j) ∧ r j < B) →
    (∀ σ', FR σ σ' → σ' 368 = σ 368 → (insL g k r p).2 ≤ c → (∀ j, j ≤ c → j ≠ (insL g k r p).2 → σ' 375 j = jI ((insL g k r p).1 j) ∧ (insL g k r p).1 j < B) → Ev 142 (75, [.ref 368, .int gt, .int (jI k), .int (jI (insL g k r p).2)], [], 0, 0, MM Ln (MG σ' g) lo db) K) →
    Ev 142 (35, [.ref 368, .int gt, .int (jI k), .int (jI p)], [], 0, 0, MM Ln (MG σ g) lo db) K
  | 0, r, σ, hp, hr, H => by
    simp (disch := omega) only [s_142_35, s_142_36, jI_le, Nat.le_refl, if_true]
    exact H σ FR.refl rfl (by simp only [insL]; omega) (by simpa only [insL] using hr)
  | p + 1, r, σ, hp, hr, H => by
    have hrp := hr p (by omega) (by omega)
    have hrp1 := hrp.1
    have hrp2 := hrp.2
    rw [s_142_35]
    simp (disch := omega) only [s_142_0, s_142_1, s_142_2, s_142_5, s_142_6, s_142_8, s_142_9, s_142_12, s_142_13, s_142_14, s_142_17, s_142_18, s_142_19, s_142_20, r_142_20, s_142_23, s_142_24, s_142_27, s_142_30, s_142_31, s_142_34, s_142_36, s_142_39, s_142_40, s_142_41, s_142_42, s_142_45, s_142_46, s_142_47, s_142_48, s_142_49, r_142_49, s_142_52, s_142_55, s_142_56, s_142_59, s_142_60, s_142_61, s_142_64, s_142_65, s_142_66, s_142_67, s_142_68, s_142_69, s_142_72, s_142_76, s_142_79, s_142_80, s_142_81, s_142_82, s_142_83, s_142_84, s_142_87, s_142_88, s_142_89, s_142_92, s_142_95, s_142_98, jI_mul, jI_add, jI_tnc, jI_ixT, true_and, and_true, bZ_0, bZ_1, bZ_b, jI_nz, jI_div, jI_rem, jI_mod, Nat.add_zero, bI_if, not_false_iff, if_true, if_false, eq_self, jI_le, jI_sub, MG_o, Nat.add_sub_cancel, hrp1, m_ahead, MG_uo]
    rw [if_neg (by omega)]
    by_cases ha : ahd g k (r p)
    · rw [if_pos ha, show jI (p + 1) + jm1 = jI p from by rw [jI_m1 (by omega)]; rfl]
      have e : insL g k r (p + 1) = insL g k (fun j => if j = p + 1 then r p else r j) p := by rw [insL, if_pos ha]
      rw [e] at H
      refine m_ins hk hc hB p (fun j => if j = p + 1 then r p else r j) _ (by omega) ?_ ?_
      rotate_left
      · intro σ' h1 h2
        exact H σ' (FR.row.trans h1) (h2.trans (by funext k; exact u2_na (by decide)))
      intro j hj hne
      by_cases hj1 : j = p + 1
      · subst hj1
        rw [u2_at, if_pos rfl]
        exact ⟨rfl, hrp2⟩
      · rw [u2_nk hj1, if_neg hj1]
        exact hr j hj hj1
    · rw [if_neg ha]
      have e : insL g k r (p + 1) = (r, p + 1) := by rw [insL, if_neg ha]
      rw [e] at H
      exact H σ FR.refl rfl hp hr
def ROW (σ : Nat → Nat → Int32) (n : Nat) (z : (Nat → Nat) × Nat) : Prop := σ 368 16 = jI z.2 ∧ z.2 ≤ n ∧ ∀ j, j < z.2 → σ 375 j = jI (z.1 j) ∧ z.1 j < n
theorem m_orders {gt : Int32} {nd : Nat} (hnd : nd ≤ 12) (h4 : g 4 = jI nd) (H : ∀ σ', FR σ σ' → ROW σ' nd (ordS g gt nd) → K (.inl none) (MM Ln (MG σ' g) lo db)) :
    Ev 142 (0, [.ref 368, .int gt, .null, .null], [], 0, 0, MM Ln (MG σ g) lo db) K := by
  have hJ : ∀ x, (∃ σ' st, x = (7, [.ref 368, .int gt, .int (jI nd), st], [], 0, 0, MM Ln (MG σ' g) lo db) ∧ FR σ σ' ∧ ROW σ' nd (ordS g gt nd)) → Ev 142 x K := by
    rintro x ⟨σ', st, rfl, h1, h2⟩
    rw [s_142_7]
    simp (disch := omega) only [s_142_0, s_142_1, s_142_2, s_142_5, s_142_6, s_142_8, s_142_9, s_142_12, s_142_13, s_142_14, s_142_18, s_142_19, s_142_20, r_142_20, s_142_23, s_142_24, s_142_27, s_142_30, s_142_31, s_142_34, s_142_36, s_142_39, s_142_40, s_142_41, s_142_42, s_142_45, s_142_46, s_142_47, s_142_48, s_142_49, r_142_49, s_142_52, s_142_55, s_142_56, s_142_59, s_142_60, s_142_61, s_142_64, s_142_65, s_142_66, s_142_67, s_142_68, s_142_69, s_142_72, s_142_75, s_142_76, s_142_79, s_142_80, s_142_81, s_142_82, s_142_83, s_142_84, s_142_87, s_142_88, s_142_89, s_142_92, s_142_95, s_142_98, jI_mul, jI_add, jI_tnc, jI_ixT, true_and, and_true, bZ_0, bZ_1, bZ_b, jI_nz, jI_div, jI_rem, jI_mod, Nat.add_zero, bI_if, not_false_iff, if_true, if_false, eq_self, MG_g, h4, jI_le, Nat.le_refl]
    exact H σ' h1 h2
  simp (disch := omega) only [s_142_0, s_142_1, s_142_2, s_142_5, s_142_6, s_142_8, s_142_9, s_142_12, s_142_13, s_142_14, s_142_18, s_142_19, s_142_20, r_142_20, s_142_23, s_142_24, s_142_27, s_142_30, s_142_31, s_142_34, s_142_36, s_142_39, s_142_40, s_142_41, s_142_42, s_142_45, s_142_46, s_142_47, s_142_48, s_142_49, r_142_49, s_142_52, s_142_55, s_142_56, s_142_59, s_142_60, s_142_61, s_142_64, s_142_65, s_142_66, s_142_67, s_142_68, s_142_69, s_142_72, s_142_75, s_142_76, s_142_79, s_142_80, s_142_81, s_142_82, s_142_83, s_142_84, s_142_87, s_142_88, s_142_89, s_142_92, s_142_95, s_142_98, jI_mul, jI_add, jI_tnc, jI_ixT, true_and, and_true, bZ_0, bZ_1, bZ_b, jI_nz, jI_div, jI_rem, jI_mod, Nat.add_zero, bI_if, not_false_iff, if_true, if_false, eq_self, MG_uo]
  refine lup0 nd (fun i x => ∃ σ' st, x = (7, [.ref 368, .int gt, .int (jI i), st], [], 0, 0, MM Ln (MG σ' g) lo db) ∧ FR σ σ' ∧ ROW σ' i (ordS g gt i)) ⟨_, _, rfl, FR.many, u2_at, Nat.le_refl 0, fun j hj => absurd hj (Nat.not_lt_zero j)⟩ ?_ hJ
  rintro i x hi ⟨σ', st, rfl, h1, h2, h3, h5⟩ hn
  rw [s_142_7]
  simp (disch := omega) only [s_142_0, s_142_1, s_142_2, s_142_5, s_142_6, s_142_8, s_142_9, s_142_12, s_142_13, s_142_14, s_142_17, s_142_18, s_142_19, s_142_20, r_142_20, s_142_23, s_142_24, s_142_27, s_142_30, s_142_31, s_142_34, s_142_36, s_142_39, s_142_40, s_142_41, s_142_42, s_142_45, s_142_46, s_142_47, s_142_48, s_142_49, r_142_49, s_142_52, s_142_55, s_142_56, s_142_59, s_142_60, s_142_61, s_142_64, s_142_65, s_142_66, s_142_67, s_142_68, s_142_69, s_142_72, s_142_76, s_142_79, s_142_80, s_142_81, s_142_82, s_142_83, s_142_84, s_142_87, s_142_88, s_142_89, s_142_92, s_142_95, s_142_98, jI_mul, jI_add, jI_tnc, jI_ixT, true_and, and_true, bZ_0, bZ_1, bZ_b, jI_nz, jI_div, jI_rem, jI_mod, Nat.add_zero, bI_if, not_false_iff, if_true, if_false, eq_self, MG_g, h4, jI_le, m_ofN, Nat.add_zero]
  rw [if_neg (by omega)]
  have e : ordS g gt (i + 1) = if g (75 + 9 * i) = gt then insR g i (ordS g gt i) else ordS g gt i := rfl
  by_cases hg : g (75 + 9 * i) = gt
  · rw [if_pos hg]
    rw [if_pos hg] at e
    simp (disch := omega) only [MG_o, h2]
    refine m_ins (B := i) (by omega) (c := (ordS g gt i).2) (by omega) (by omega) _ (ordS g gt i).1 σ' (Nat.le_refl _) (fun j hj hne => ⟨(h5 j (by omega)).1, (h5 j (by omega)).2⟩) ?_
    intro σ'' f1 f2 f3 f4
    simp (disch := omega) only [s_142_0, s_142_1, s_142_2, s_142_5, s_142_6, s_142_8, s_142_9, s_142_12, s_142_13, s_142_14, s_142_17, s_142_18, s_142_19, s_142_20, r_142_20, s_142_23, s_142_24, s_142_27, s_142_30, s_142_31, s_142_34, s_142_36, s_142_39, s_142_40, s_142_41, s_142_42, s_142_45, s_142_46, s_142_47, s_142_48, s_142_49, r_142_49, s_142_52, s_142_55, s_142_56, s_142_59, s_142_60, s_142_61, s_142_64, s_142_65, s_142_66, s_142_67, s_142_68, s_142_69, s_142_72, s_142_75, s_142_76, s_142_79, s_142_80, s_142_81, s_142_82, s_142_83, s_142_84, s_142_87, s_142_88, s_142_89, s_142_92, s_142_95, s_142_98, jI_mul, jI_add, jI_tnc, jI_ixT, true_and, and_true, bZ_0, bZ_1, bZ_b, jI_nz, jI_div, jI_rem, jI_mod, Nat.add_zero, bI_if, not_false_iff, if_true, if_false, eq_self, MG_o, MG_uo, u2_na, f2, h2]
    refine hn _ ⟨_, _, rfl, h1.trans (f1.trans (FR.row.trans FR.many)), ?_⟩
    rw [e]
    refine ⟨?_, ?_, ?_⟩
    · rw [u2_at]; rfl
    · show (ordS g gt i).2 + 1 ≤ i + 1
      omega
    · intro j hj
      have hj : j < (ordS g gt i).2 + 1 := hj
      show u2 _ 368 16 _ 375 j = jI (if j = (insL g i (ordS g gt i).1 (ordS g gt i).2).2 then i else (insL g i (ordS g gt i).1 (ordS g gt i).2).1 j) ∧ (if j = (insL g i (ordS g gt i).1 (ordS g gt i).2).2 then i else (insL g i (ordS g gt i).1 (ordS g gt i).2).1 j) < i + 1
      rw [u2_na (by decide)]
      by_cases hj2 : j = (insL g i (ordS g gt i).1 (ordS g gt i).2).2
      · rw [if_pos hj2, hj2, u2_at]
        exact ⟨rfl, by omega⟩
      · rw [if_neg hj2, u2_nk hj2]
        have := f4 j (by omega) hj2
        exact ⟨this.1, by omega⟩
  · rw [if_neg hg]
    rw [if_neg hg] at e
    refine hn _ ⟨_, _, rfl, h1, ?_⟩
    rw [e]
    exact ⟨h2, by omega, fun j hj => ⟨(h5 j hj).1, by have := (h5 j hj).2; omega⟩⟩
theorem m_waters {gt nd : Nat} {w : Int32} (hg : gt < 6) (hnd : nd ≤ 12) (h4 : g 4 = jI nd) (H : ∀ σ', FR σ σ' → K (.inl (some (.int (watS g gt w nd).2))) (MM Ln (MG σ' (watS g gt w nd).1) lo db)) :
    Ev 144 (0, [.ref 368, .int (jI gt), .int w, .null, .null, .null], [], 0, 0, MM Ln (MG σ g) lo db) K := by
  simp (disch := omega) only [s_144_0, s_144_1, s_144_2, r_144_2, s_144_5, s_144_6, s_144_7, s_144_8, s_144_12, s_144_13, s_144_16, s_144_19, s_144_20, s_144_21, s_144_24, s_144_26, s_144_27, s_144_28, r_144_28, s_144_31, s_144_33, s_144_34, s_144_35, s_144_38, s_144_40, s_144_41, s_144_43, s_144_44, s_144_45, s_144_48, s_144_50, s_144_51, s_144_53, r_144_53, s_144_56, s_144_58, s_144_59, r_144_59, s_144_62, s_144_63, s_144_66, s_144_68, s_144_69, s_144_70, s_144_72, s_144_73, s_144_74, s_144_75, s_144_77, s_144_78, s_144_79, s_144_82, s_144_85, s_144_86, s_144_87, s_144_88, s_144_89, r_144_89, s_144_92, s_144_93, jI_mul, jI_add, jI_tnc, jI_ixT, true_and, and_true, bZ_0, bZ_1, bZ_b, jI_nz, jI_div, jI_rem, jI_mod, Nat.add_zero, bI_if, not_false_iff, if_true, if_false, eq_self]
  refine m_orders hnd h4 ?_
  rintro σ' f1 ⟨r1, r2, r3⟩
  simp (disch := omega) only [s_144_0, s_144_1, s_144_2, r_144_2, s_144_5, s_144_6, s_144_7, s_144_8, s_144_12, s_144_13, s_144_16, s_144_19, s_144_20, s_144_21, s_144_24, s_144_26, s_144_27, s_144_28, r_144_28, s_144_31, s_144_33, s_144_34, s_144_35, s_144_38, s_144_40, s_144_41, s_144_43, s_144_44, s_144_45, s_144_48, s_144_50, s_144_51, s_144_53, r_144_53, s_144_56, s_144_58, s_144_59, r_144_59, s_144_62, s_144_63, s_144_66, s_144_68, s_144_69, s_144_70, s_144_72, s_144_73, s_144_74, s_144_75, s_144_77, s_144_78, s_144_79, s_144_82, s_144_85, s_144_86, s_144_87, s_144_88, s_144_89, r_144_89, s_144_92, s_144_93, jI_mul, jI_add, jI_tnc, jI_ixT, true_and, and_true, bZ_0, bZ_1, bZ_b, jI_nz, jI_div, jI_rem, jI_mod, Nat.add_zero, bI_if, not_false_iff, if_true, if_false, eq_self]
  refine lup0 (ordS g (jI gt) nd).2 (fun i x => ∃ st, x = (10, [.ref 368, .int (jI gt), .int w, .int (itN i (watStep (ordS g (jI gt) nd).1) (g, w)).2, .int (jI i), st], [], 0, 0, MM Ln (MG σ' (itN i (watStep (ordS g (jI gt) nd).1) (g, w)).1) lo db)) ⟨_, rfl⟩ ?_ ?_
  · rintro i x hi ⟨st, rfl⟩ hn
    have hr1 := (r3 i hi).1
    have hr2 := (r3 i hi).2
    rw [s_144_10]
    simp (disch := omega) only [s_144_0, s_144_1, s_144_2, r_144_2, s_144_5, s_144_6, s_144_7, s_144_8, s_144_12, s_144_13, s_144_16, s_144_19, s_144_20, s_144_21, s_144_24, s_144_26, s_144_27, s_144_28, r_144_28, s_144_31, s_144_33, s_144_34, s_144_35, s_144_38, s_144_40, s_144_41, s_144_43, s_144_44, s_144_45, s_144_48, s_144_50, s_144_51, s_144_53, r_144_53, s_144_56, s_144_58, s_144_59, r_144_59, s_144_62, s_144_63, s_144_66, s_144_68, s_144_69, s_144_70, s_144_72, s_144_73, s_144_74, s_144_75, s_144_77, s_144_78, s_144_79, s_144_82, s_144_85, s_144_86, s_144_87, s_144_88, s_144_89, r_144_89, s_144_92, s_144_93, jI_mul, jI_add, jI_tnc, jI_ixT, true_and, and_true, bZ_0, bZ_1, bZ_b, jI_nz, jI_div, jI_rem, jI_mod, Nat.add_zero, bI_if, not_false_iff, if_true, if_false, eq_self, MG_o, r1, jI_le, hr1]
    rw [if_neg (by omega)]
    simp (disch := omega) only [m_drinks, s_144_0, s_144_1, s_144_2, r_144_2, s_144_5, s_144_6, s_144_7, s_144_8, s_144_12, s_144_13, s_144_16, s_144_19, s_144_20, s_144_21, s_144_24, s_144_26, s_144_27, s_144_28, r_144_28, s_144_31, s_144_33, s_144_34, s_144_35, s_144_38, s_144_40, s_144_41, s_144_43, s_144_44, s_144_45, s_144_48, s_144_50, s_144_51, s_144_53, r_144_53, s_144_56, s_144_58, s_144_59, r_144_59, s_144_62, s_144_63, s_144_66, s_144_68, s_144_69, s_144_70, s_144_72, s_144_73, s_144_74, s_144_75, s_144_77, s_144_78, s_144_79, s_144_82, s_144_85, s_144_86, s_144_87, s_144_88, s_144_89, r_144_89, s_144_92, s_144_93, jI_mul, jI_add, jI_tnc, jI_ixT, true_and, and_true, bZ_0, bZ_1, bZ_b, jI_nz, jI_div, jI_rem, jI_mod, Nat.add_zero, bI_if, not_false_iff, if_true, if_false, eq_self, MG_o, hr1, m_ofN, m_lays, MG_g, MG_u]
    exact hn _ ⟨_, rfl⟩
  · rintro x ⟨st, rfl⟩
    rw [s_144_10]
    simp (disch := omega) only [s_144_0, s_144_1, s_144_2, r_144_2, s_144_5, s_144_6, s_144_7, s_144_8, s_144_12, s_144_13, s_144_16, s_144_19, s_144_20, s_144_21, s_144_24, s_144_26, s_144_27, s_144_28, r_144_28, s_144_31, s_144_33, s_144_34, s_144_35, s_144_38, s_144_40, s_144_41, s_144_43, s_144_44, s_144_45, s_144_48, s_144_50, s_144_51, s_144_53, r_144_53, s_144_56, s_144_58, s_144_59, r_144_59, s_144_62, s_144_63, s_144_66, s_144_68, s_144_69, s_144_70, s_144_72, s_144_73, s_144_74, s_144_75, s_144_77, s_144_78, s_144_79, s_144_82, s_144_85, s_144_86, s_144_87, s_144_88, s_144_89, r_144_89, s_144_92, s_144_93, jI_mul, jI_add, jI_tnc, jI_ixT, true_and, and_true, bZ_0, bZ_1, bZ_b, jI_nz, jI_div, jI_rem, jI_mod, Nat.add_zero, bI_if, not_false_iff, if_true, if_false, eq_self, MG_o, r1, jI_le, Nat.le_refl, m_adds]
    exact H σ' f1
theorem m_openIn {k h : Nat} (hk : k < 6) (hh : h < 168) : Ev 128 (0, [.ref 368, .int (jI k), .int (jI h)], [], 0, 0, MM Ln (MG σ g) lo db) K ↔ K (.inl (some (.int (bI ((g (15 + 10 * k + (4 + h / 28)) >>> (jI (h % 28) &&& 31)) &&& jI 1 = jI 1))))) (MM Ln (MG σ g) lo db) := by
  simp (disch := omega) only [s_128_0, s_128_1, s_128_2, s_128_3, s_128_4, s_128_6, s_128_7, s_128_8, r_128_8, s_128_11, s_128_12, s_128_14, s_128_15, s_128_16, s_128_17, s_128_18, s_128_19, s_128_22, s_128_23, s_128_26, s_128_27, jI_mul, jI_add, jI_tnc, jI_ixT, true_and, and_true, bZ_0, bZ_1, bZ_b, jI_nz, jI_div, jI_rem, jI_mod, Nat.add_zero, bI_if, not_false_iff, if_true, if_false, eq_self, m_ofG]
  unfold bI
  by_cases h1 : (g (15 + 10 * k + (4 + h / 28)) >>> (jI (h % 28) &&& 31)) &&& jI 1 = jI 1 <;> simp only [h1, if_true, if_false]
/-- what an hour at the gates leaves as it is -/
def Fx (k : Nat) : Prop := k ≤ 7 ∨ (15 ≤ k ∧ k < 75 ∧ (k - 15) % 10 ≠ 2 ∧ (k - 15) % 10 ≠ 3)
theorem watStep_fx {i k : Nat} {r : Nat → Nat} {z : Gr × Int32} (hk : Fx k) : (watStep r i z).1 k = z.1 k := by
  unfold Fx at hk
  unfold watStep
  simp (disch := omega) only [gu_ne]
theorem itN_fx {n k : Nat} {r : Nat → Nat} {z : Gr × Int32} (hk : Fx k) : (itN n (watStep r) z).1 k = z.1 k := by
  induction n with
  | zero => rfl
  | succ n ih => rw [itN_succ, watStep_fx hk, ih]
theorem watS_fx {g : Gr} {gt nd k : Nat} {w : Int32} (hk : Fx k) : (watS g gt w nd).1 k = g k := by
  have := itN_fx (n := (ordS g (jI gt) nd).2) (r := (ordS g (jI gt) nd).1) (z := (g, w)) hk
  unfold Fx at hk
  unfold watS
  simp (disch := omega) only [gu_ne]
  exact this
theorem dwnStep_fx {oh : Nat → Nat → Bool} {hw nd i k : Nat} {z : Gr × Int32} (hk : Fx k) : (dwnStep oh hw nd i z).1 k = z.1 k := by
  have hk' := hk
  unfold Fx at hk'
  unfold dwnStep
  by_cases ho : oh i hw = true
  · simp (disch := omega) only [if_pos ho, watS_fx hk, gu_ne]
  · simp (disch := omega) only [if_neg ho, gu_ne]
theorem dwn_fx {oh : Nat → Nat → Bool} {hw nd n k : Nat} {z : Gr × Int32} (hk : Fx k) : (itN n (dwnStep oh hw nd) z).1 k = z.1 k := by
  induction n with
  | zero => rfl
  | succ n ih => rw [itN_succ, dwnStep_fx hk, ih]
/-- the hours of the gates, as bits and as truths -/
def OHm (g : Gr) (oh : Nat → Nat → Bool) : Prop := ∀ k h, k < 6 → h < 168 → ((g (15 + 10 * k + (4 + h / 28)) >>> (jI (h % 28) &&& 31)) &&& jI 1 = jI 1 ↔ oh k h = true)
theorem OHm.of {g g' : Gr} {oh : Nat → Nat → Bool} (h : OHm g oh) (e : ∀ k p, k < 6 → p < 6 → g' (15 + 10 * k + (4 + p)) = g (15 + 10 * k + (4 + p))) : OHm g' oh := by
  intro k x hk hx
  rw [e k (x / 28) hk (by omega)]
  exact h k x hk hx
theorem m_openS {k h : Nat} {oh : Nat → Nat → Bool} (hO : OHm g oh) (hk : k < 6) (hh : h < 168) : Ev 128 (0, [.ref 368, .int (jI k), .int (jI h)], [], 0, 0, MM Ln (MG σ g) lo db) K ↔ K (.inl (some (.int (bI (oh k h = true))))) (MM Ln (MG σ g) lo db) := by
  rw [m_openIn hk hh]
  have := hO k h hk hh
  unfold bI
  by_cases h1 : oh k h = true
  · rw [if_pos h1, if_pos (this.mpr h1)]
  · rw [if_neg h1, if_neg (fun e => h1 (this.mp e))]
theorem m_down {oh : Nat → Nat → Bool} {ng nd h : Nat} {w : Int32} (hng : ng ≤ 6) (hnd : nd ≤ 12) (h3 : g 3 = jI ng) (h4 : g 4 = jI nd) (h0 : g 0 = jI h) (hh : h < 2147483648) (hO : OHm g oh)
    (H : ∀ σ', FR σ σ' → K (.inl (some (.int (itN ng (dwnStep oh (h % 168) nd) (g, w)).2))) (MM Ln (MG σ' (itN ng (dwnStep oh (h % 168) nd) (g, w)).1) lo db)) :
    Ev 145 (0, [.ref 368, .int w, .null, .null, .null, .null], [], 0, 0, MM Ln (MG σ g) lo db) K := by
  simp (disch := omega) only [s_145_0, s_145_1, s_145_2, s_145_3, s_145_5, s_145_6, s_145_9, s_145_10, s_145_11, s_145_14, s_145_15, s_145_16, s_145_17, s_145_18, r_145_18, s_145_21, s_145_22, s_145_24, r_145_24, s_145_27, s_145_29, s_145_30, s_145_33, s_145_35, s_145_36, s_145_37, s_145_39, s_145_40, s_145_41, s_145_42, s_145_44, s_145_45, s_145_46, s_145_47, s_145_48, s_145_49, s_145_52, s_145_53, s_145_54, s_145_57, s_145_58, r_145_58, s_145_61, s_145_64, s_145_67, s_145_68, s_145_69, s_145_70, r_145_70, s_145_73, s_145_74, r_145_74, s_145_77, s_145_79, s_145_80, s_145_81, s_145_82, s_145_84, r_145_84, s_145_87, s_145_88, s_145_89, s_145_90, s_145_92, r_145_92, s_145_95, s_145_97, s_145_98, s_145_99, s_145_100, s_145_103, s_145_106, s_145_107, jI_mul, jI_add, jI_tnc, jI_ixT, true_and, and_true, bZ_0, bZ_1, bZ_b, jI_nz, jI_div, jI_rem, jI_mod, Nat.add_zero, bI_if, not_false_iff, if_true, if_false, eq_self]
  refine lup0 ng (fun i x => ∃ σ' s1 s2, x = (4, [.ref 368, .int w, .int (itN i (dwnStep oh (h % 168) nd) (g, w)).2, .int (jI i), s1, s2], [], 0, 0, MM Ln (MG σ' (itN i (dwnStep oh (h % 168) nd) (g, w)).1) lo db) ∧ FR σ σ') ⟨_, _, _, rfl, FR.refl⟩ ?_ ?_
  · rintro i x hi ⟨σ', s1, s2, rfl, f1⟩ hn
    have hf : ∀ k, Fx k → (itN i (dwnStep oh (h % 168) nd) (g, w)).1 k = g k := fun k hk => dwn_fx hk
    have e3 := (hf 3 (Or.inl (by omega))).trans h3
    have e4 := (hf 4 (Or.inl (by omega))).trans h4
    have e0 := (hf 0 (Or.inl (by omega))).trans h0
    have hO' : OHm (itN i (dwnStep oh (h % 168) nd) (g, w)).1 oh := hO.of (fun k p hk hp => hf _ (Or.inr (by omega)))
    have hO2 : ∀ v, OHm (gu (itN i (dwnStep oh (h % 168) nd) (g, w)).1 8 v) oh := fun v => hO'.of (fun k p hk hp => gu_ne (by omega))
    have en : itN (i + 1) (dwnStep oh (h % 168) nd) (g, w) = dwnStep oh (h % 168) nd i (itN i (dwnStep oh (h % 168) nd) (g, w)) := rfl
    generalize itN i (dwnStep oh (h % 168) nd) (g, w) = z at *
    rw [s_145_4]
    simp (disch := omega) only [s_145_0, s_145_1, s_145_2, s_145_3, s_145_5, s_145_6, s_145_9, s_145_10, s_145_11, s_145_14, s_145_15, s_145_16, s_145_17, s_145_18, r_145_18, s_145_21, s_145_22, s_145_24, r_145_24, s_145_27, s_145_29, s_145_30, s_145_33, s_145_35, s_145_36, s_145_37, s_145_39, s_145_40, s_145_41, s_145_42, s_145_44, s_145_45, s_145_46, s_145_47, s_145_48, s_145_49, s_145_52, s_145_53, s_145_54, s_145_57, s_145_58, r_145_58, s_145_61, s_145_64, s_145_67, s_145_68, s_145_69, s_145_70, r_145_70, s_145_73, s_145_74, r_145_74, s_145_77, s_145_79, s_145_80, s_145_81, s_145_82, s_145_84, r_145_84, s_145_87, s_145_88, s_145_89, s_145_90, s_145_92, r_145_92, s_145_95, s_145_97, s_145_98, s_145_99, s_145_100, s_145_103, s_145_106, s_145_107, jI_mul, jI_add, jI_tnc, jI_ixT, true_and, and_true, bZ_0, bZ_1, bZ_b, jI_nz, jI_div, jI_rem, jI_mod, Nat.add_zero, bI_if, not_false_iff, if_true, if_false, eq_self, MG_g, e3, jI_le]
    rw [if_neg (by omega)]
    simp (disch := omega) only [s_145_0, s_145_1, s_145_2, s_145_3, s_145_5, s_145_6, s_145_9, s_145_10, s_145_11, s_145_14, s_145_15, s_145_16, s_145_17, s_145_18, r_145_18, s_145_21, s_145_22, s_145_24, r_145_24, s_145_27, s_145_29, s_145_30, s_145_33, s_145_35, s_145_36, s_145_37, s_145_39, s_145_40, s_145_41, s_145_42, s_145_44, s_145_45, s_145_46, s_145_47, s_145_48, s_145_49, s_145_52, s_145_53, s_145_54, s_145_57, s_145_58, r_145_58, s_145_61, s_145_64, s_145_67, s_145_68, s_145_69, s_145_70, r_145_70, s_145_73, s_145_74, r_145_74, s_145_77, s_145_79, s_145_80, s_145_81, s_145_82, s_145_84, r_145_84, s_145_87, s_145_88, s_145_89, s_145_90, s_145_92, r_145_92, s_145_95, s_145_97, s_145_98, s_145_99, s_145_100, s_145_103, s_145_106, s_145_107, jI_mul, jI_add, jI_tnc, jI_ixT, true_and, and_true, bZ_0, bZ_1, bZ_b, jI_nz, jI_div, jI_rem, jI_mod, Nat.add_zero, bI_if, not_false_iff, if_true, if_false, eq_self, MG_g, MG_u, m_ofG, m_up100, jI_nz, not_false_iff, gu_ne, e0, jI_rem, m_openS (hO2 _), bI_if, m_less, m_adds]
    rw [en] at hn
    unfold dwnStep at hn
    by_cases ho : oh i (h % 168) = true
    · simp (disch := omega) only [if_pos ho, gu_ne] at hn ⊢
      refine m_waters (by omega) hnd (by simp (disch := omega) only [gu_ne]; exact e4) ?_
      intro σ'' f2
      simp (disch := omega) only [s_145_0, s_145_1, s_145_2, s_145_3, s_145_5, s_145_6, s_145_9, s_145_10, s_145_11, s_145_14, s_145_15, s_145_16, s_145_17, s_145_18, r_145_18, s_145_21, s_145_22, s_145_24, r_145_24, s_145_27, s_145_29, s_145_30, s_145_33, s_145_35, s_145_36, s_145_37, s_145_39, s_145_40, s_145_41, s_145_42, s_145_44, s_145_45, s_145_46, s_145_47, s_145_48, s_145_49, s_145_52, s_145_53, s_145_54, s_145_57, s_145_58, r_145_58, s_145_61, s_145_64, s_145_67, s_145_68, s_145_69, s_145_70, r_145_70, s_145_73, s_145_74, r_145_74, s_145_77, s_145_79, s_145_80, s_145_81, s_145_82, s_145_84, r_145_84, s_145_87, s_145_88, s_145_89, s_145_90, s_145_92, r_145_92, s_145_95, s_145_97, s_145_98, s_145_99, s_145_100, s_145_103, s_145_106, s_145_107, jI_mul, jI_add, jI_tnc, jI_ixT, true_and, and_true, bZ_0, bZ_1, bZ_b, jI_nz, jI_div, jI_rem, jI_mod, Nat.add_zero, bI_if, not_false_iff, if_true, if_false, eq_self]
      exact hn _ ⟨σ'', _, _, rfl, f1.trans f2⟩
    · simp (disch := omega) only [if_neg ho, gu_ne] at hn ⊢
      exact hn _ ⟨σ', _, _, rfl, f1⟩
  · rintro x ⟨σ', s1, s2, rfl, f1⟩
    have e3 := (dwn_fx (oh := oh) (hw := h % 168) (nd := nd) (n := ng) (z := (g, w)) (k := 3) (Or.inl (by omega))).trans h3
    rw [s_145_4]
    simp (disch := omega) only [s_145_0, s_145_1, s_145_2, s_145_3, s_145_5, s_145_6, s_145_9, s_145_10, s_145_11, s_145_14, s_145_15, s_145_16, s_145_17, s_145_18, r_145_18, s_145_21, s_145_22, s_145_24, r_145_24, s_145_27, s_145_29, s_145_30, s_145_33, s_145_35, s_145_36, s_145_37, s_145_39, s_145_40, s_145_41, s_145_42, s_145_44, s_145_45, s_145_46, s_145_47, s_145_48, s_145_49, s_145_52, s_145_53, s_145_54, s_145_57, s_145_58, r_145_58, s_145_61, s_145_64, s_145_67, s_145_68, s_145_69, s_145_70, r_145_70, s_145_73, s_145_74, r_145_74, s_145_77, s_145_79, s_145_80, s_145_81, s_145_82, s_145_84, r_145_84, s_145_87, s_145_88, s_145_89, s_145_90, s_145_92, r_145_92, s_145_95, s_145_97, s_145_98, s_145_99, s_145_100, s_145_103, s_145_106, s_145_107, jI_mul, jI_add, jI_tnc, jI_ixT, true_and, and_true, bZ_0, bZ_1, bZ_b, jI_nz, jI_div, jI_rem, jI_mod, Nat.add_zero, bI_if, not_false_iff, if_true, if_false, eq_self, MG_g, e3, jI_le, Nat.le_refl]
    exact H σ' f1
theorem thv_fx {h : Int32} {i k : Nat} {z : Gr × Int32} (hk : k < 75) (h10 : k ≠ 10) : (thvStep h i z).1 k = z.1 k := by
  unfold thvStep
  by_cases h1 : z.1 (75 + 9 * i + 5) = jI 0
  · rw [if_pos h1]
  · rw [if_neg h1]
    by_cases h2 : jI 0 < drS z.1 i z.2
    · simp (disch := omega) only [if_pos h2, gu_ne]
    · simp (disch := omega) only [if_neg h2, gu_ne]
theorem thvN_fx {h : Int32} {n k : Nat} {z : Gr × Int32} (hk : k < 75) (h10 : k ≠ 10) : (itN n (thvStep h) z).1 k = z.1 k := by
  induction n with
  | zero => rfl
  | succ n ih => rw [itN_succ, thv_fx hk h10, ih]
theorem m_thieves {nd : Nat} {w h : Int32} (hnd : nd ≤ 12) (h4 : g 4 = jI nd) (h0 : g 0 = h)
    (H : K (.inl (some (.int (itN nd (thvStep h) (g, w)).2))) (MM Ln (MG σ (itN nd (thvStep h) (g, w)).1) lo db)) :
    Ev 146 (0, [.ref 368, .int w, .null, .null, .null], [], 0, 0, MM Ln (MG σ g) lo db) K := by
  simp (disch := omega) only [s_146_0, s_146_1, s_146_2, s_146_3, s_146_5, s_146_6, s_146_9, s_146_10, s_146_11, s_146_14, s_146_15, s_146_16, s_146_17, r_146_17, s_146_20, s_146_23, s_146_26, s_146_27, s_146_28, s_146_29, r_146_29, s_146_32, s_146_34, s_146_36, s_146_39, s_146_40, s_146_41, s_146_43, s_146_44, s_146_47, s_146_48, s_146_49, r_146_49, s_146_52, s_146_53, s_146_54, s_146_56, s_146_57, s_146_58, s_146_60, r_146_60, s_146_63, s_146_65, s_146_66, r_146_66, s_146_69, s_146_70, s_146_73, s_146_75, s_146_76, s_146_77, s_146_79, s_146_80, s_146_81, s_146_82, s_146_84, s_146_85, s_146_86, s_146_89, s_146_92, s_146_93, jI_mul, jI_add, jI_tnc, jI_ixT, true_and, and_true, bZ_0, bZ_1, bZ_b, jI_nz, jI_div, jI_rem, jI_mod, Nat.add_zero, bI_if, not_false_iff, if_true, if_false, eq_self]
  refine lup0 nd (fun i x => ∃ s1, x = (4, [.ref 368, .int w, .int (itN i (thvStep h) (g, w)).2, .int (jI i), s1], [], 0, 0, MM Ln (MG σ (itN i (thvStep h) (g, w)).1) lo db)) ⟨_, rfl⟩ ?_ ?_
  · rintro i x hi ⟨s1, rfl⟩ hn
    have e4 := (thvN_fx (h := h) (n := i) (z := (g, w)) (k := 4) (by omega) (by omega)).trans h4
    have e0 := (thvN_fx (h := h) (n := i) (z := (g, w)) (k := 0) (by omega) (by omega)).trans h0
    have en : itN (i + 1) (thvStep h) (g, w) = thvStep h i (itN i (thvStep h) (g, w)) := rfl
    rw [en] at hn
    generalize itN i (thvStep h) (g, w) = z at *
    rw [s_146_4]
    simp (disch := omega) only [s_146_0, s_146_1, s_146_2, s_146_3, s_146_5, s_146_6, s_146_9, s_146_10, s_146_11, s_146_14, s_146_15, s_146_16, s_146_17, r_146_17, s_146_20, s_146_23, s_146_26, s_146_27, s_146_28, s_146_29, r_146_29, s_146_32, s_146_34, s_146_36, s_146_39, s_146_40, s_146_41, s_146_43, s_146_44, s_146_47, s_146_48, s_146_49, r_146_49, s_146_52, s_146_53, s_146_54, s_146_56, s_146_57, s_146_58, s_146_60, r_146_60, s_146_63, s_146_65, s_146_66, r_146_66, s_146_69, s_146_70, s_146_73, s_146_75, s_146_76, s_146_77, s_146_79, s_146_80, s_146_81, s_146_82, s_146_84, s_146_85, s_146_86, s_146_89, s_146_92, s_146_93, jI_mul, jI_add, jI_tnc, jI_ixT, true_and, and_true, bZ_0, bZ_1, bZ_b, jI_nz, jI_div, jI_rem, jI_mod, Nat.add_zero, bI_if, not_false_iff, if_true, if_false, eq_self, MG_g, e4, jI_le]
    rw [if_neg (by omega)]
    unfold thvStep at hn
    simp (disch := omega) only [s_146_0, s_146_1, s_146_2, s_146_3, s_146_5, s_146_6, s_146_9, s_146_10, s_146_11, s_146_14, s_146_15, s_146_16, s_146_17, r_146_17, s_146_20, s_146_23, s_146_26, s_146_27, s_146_28, s_146_29, r_146_29, s_146_32, s_146_34, s_146_36, s_146_39, s_146_40, s_146_41, s_146_43, s_146_44, s_146_47, s_146_48, s_146_49, r_146_49, s_146_52, s_146_53, s_146_54, s_146_56, s_146_57, s_146_58, s_146_60, r_146_60, s_146_63, s_146_65, s_146_66, r_146_66, s_146_69, s_146_70, s_146_73, s_146_75, s_146_76, s_146_77, s_146_79, s_146_80, s_146_81, s_146_82, s_146_84, s_146_85, s_146_86, s_146_89, s_146_92, s_146_93, jI_mul, jI_add, jI_tnc, jI_ixT, true_and, and_true, bZ_0, bZ_1, bZ_b, jI_nz, jI_div, jI_rem, jI_mod, Nat.add_zero, bI_if, not_false_iff, if_true, if_false, eq_self, MG_g, MG_u, m_ofN]
    by_cases h1 : z.1 (75 + 9 * i + 5) = jI 0
    · simp only [if_pos h1] at hn ⊢
      exact hn _ ⟨_, rfl⟩
    · simp (disch := omega) only [if_neg h1, s_146_0, s_146_1, s_146_2, s_146_3, s_146_5, s_146_6, s_146_9, s_146_10, s_146_11, s_146_14, s_146_15, s_146_16, s_146_17, r_146_17, s_146_20, s_146_23, s_146_26, s_146_27, s_146_28, s_146_29, r_146_29, s_146_32, s_146_34, s_146_36, s_146_39, s_146_40, s_146_41, s_146_43, s_146_44, s_146_47, s_146_48, s_146_49, r_146_49, s_146_52, s_146_53, s_146_54, s_146_56, s_146_57, s_146_58, s_146_60, r_146_60, s_146_63, s_146_65, s_146_66, r_146_66, s_146_69, s_146_70, s_146_73, s_146_75, s_146_76, s_146_77, s_146_79, s_146_80, s_146_81, s_146_82, s_146_84, s_146_85, s_146_86, s_146_89, s_146_92, s_146_93, jI_mul, jI_add, jI_tnc, jI_ixT, true_and, and_true, bZ_0, bZ_1, bZ_b, jI_nz, jI_div, jI_rem, jI_mod, Nat.add_zero, bI_if, not_false_iff, if_true, if_false, eq_self, m_drinks, ← Int32.not_lt] at hn ⊢
      by_cases h2 : jI 0 < drS z.1 i z.2
      · simp (disch := omega) only [h2, not_true, s_146_0, s_146_1, s_146_2, s_146_3, s_146_5, s_146_6, s_146_9, s_146_10, s_146_11, s_146_14, s_146_15, s_146_16, s_146_17, r_146_17, s_146_20, s_146_23, s_146_26, s_146_27, s_146_28, s_146_29, r_146_29, s_146_32, s_146_34, s_146_36, s_146_39, s_146_40, s_146_41, s_146_43, s_146_44, s_146_47, s_146_48, s_146_49, r_146_49, s_146_52, s_146_53, s_146_54, s_146_56, s_146_57, s_146_58, s_146_60, r_146_60, s_146_63, s_146_65, s_146_66, r_146_66, s_146_69, s_146_70, s_146_73, s_146_75, s_146_76, s_146_77, s_146_79, s_146_80, s_146_81, s_146_82, s_146_84, s_146_85, s_146_86, s_146_89, s_146_92, s_146_93, jI_mul, jI_add, jI_tnc, jI_ixT, true_and, and_true, bZ_0, bZ_1, bZ_b, jI_nz, jI_div, jI_rem, jI_mod, Nat.add_zero, bI_if, not_false_iff, if_true, if_false, eq_self, MG_g, MG_u, gu_ne, e0, m_lays, m_ofN] at hn ⊢
        exact hn _ ⟨_, rfl⟩
      · simp (disch := omega) only [h2, s_146_0, s_146_1, s_146_2, s_146_3, s_146_5, s_146_6, s_146_9, s_146_10, s_146_11, s_146_14, s_146_15, s_146_16, s_146_17, r_146_17, s_146_20, s_146_23, s_146_26, s_146_27, s_146_28, s_146_29, r_146_29, s_146_32, s_146_34, s_146_36, s_146_39, s_146_40, s_146_41, s_146_43, s_146_44, s_146_47, s_146_48, s_146_49, r_146_49, s_146_52, s_146_53, s_146_54, s_146_56, s_146_57, s_146_58, s_146_60, r_146_60, s_146_63, s_146_65, s_146_66, r_146_66, s_146_69, s_146_70, s_146_73, s_146_75, s_146_76, s_146_77, s_146_79, s_146_80, s_146_81, s_146_82, s_146_84, s_146_85, s_146_86, s_146_89, s_146_92, s_146_93, jI_mul, jI_add, jI_tnc, jI_ixT, true_and, and_true, bZ_0, bZ_1, bZ_b, jI_nz, jI_div, jI_rem, jI_mod, Nat.add_zero, bI_if, not_false_iff, if_true, if_false, eq_self, MG_g, MG_u, gu_ne, m_lays, m_ofN] at hn ⊢
        exact hn _ ⟨_, rfl⟩
  · rintro x ⟨s1, rfl⟩
    have e4 := (thvN_fx (h := h) (n := nd) (z := (g, w)) (k := 4) (by omega) (by omega)).trans h4
    rw [s_146_4]
    simp (disch := omega) only [s_146_0, s_146_1, s_146_2, s_146_3, s_146_5, s_146_6, s_146_9, s_146_10, s_146_11, s_146_14, s_146_15, s_146_16, s_146_17, r_146_17, s_146_20, s_146_23, s_146_26, s_146_27, s_146_28, s_146_29, r_146_29, s_146_32, s_146_34, s_146_36, s_146_39, s_146_40, s_146_41, s_146_43, s_146_44, s_146_47, s_146_48, s_146_49, r_146_49, s_146_52, s_146_53, s_146_54, s_146_56, s_146_57, s_146_58, s_146_60, r_146_60, s_146_63, s_146_65, s_146_66, r_146_66, s_146_69, s_146_70, s_146_73, s_146_75, s_146_76, s_146_77, s_146_79, s_146_80, s_146_81, s_146_82, s_146_84, s_146_85, s_146_86, s_146_89, s_146_92, s_146_93, jI_mul, jI_add, jI_tnc, jI_ixT, true_and, and_true, bZ_0, bZ_1, bZ_b, jI_nz, jI_div, jI_rem, jI_mod, Nat.add_zero, bI_if, not_false_iff, if_true, if_false, eq_self, MG_g, e4, jI_le, Nat.le_refl]
    exact H
theorem m_guilty {k : Nat} (hk : k < 12) : Ev 147 (0, [.ref 368, .int (jI k)], [], 0, 0, MM Ln (MG σ g) lo db) K ↔ K (.inl (some (.int (bI (jI 0 ≤ g (75 + 9 * k + 8) ∧ g 0 - jI 168 ≤ g (75 + 9 * k + 8)))))) (MM Ln (MG σ g) lo db) := by
  simp (disch := omega) only [s_147_0, s_147_1, s_147_2, s_147_4, r_147_4, s_147_7, s_147_10, s_147_11, s_147_12, s_147_14, r_147_14, s_147_17, s_147_18, s_147_21, s_147_22, s_147_23, s_147_26, s_147_27, s_147_30, s_147_31, s_147_34, s_147_35, jI_mul, jI_add, jI_tnc, jI_ixT, true_and, and_true, bZ_0, bZ_1, bZ_b, jI_nz, jI_div, jI_rem, jI_mod, Nat.add_zero, bI_if, not_false_iff, if_true, if_false, eq_self, MG_g, m_ofN, ← Int32.not_lt]
  unfold bI
  by_cases h1 : g (75 + 9 * k + 8) < jI 0 <;> by_cases h2 : g (75 + 9 * k + 8) < g 0 - jI 168 <;> simp only [h1, h2, if_true, if_false, not_true, not_false_iff, and_true, and_false, true_and]
theorem m_hears {a b : Nat} (ha : a < 12) (hb : b < 12) : Ev 148 (0, [.ref 368, .int (jI a), .int (jI b), .null], [], 0, 0, MM Ln (MG σ g) lo db) K ↔ K (.inl none) (MM Ln (MG σ (hrS g a b)) lo db) := by
  simp (disch := omega) only [s_148_0, s_148_1, s_148_4, s_148_6, s_148_7, s_148_8, s_148_9, s_148_10, s_148_11, s_148_12, s_148_13, r_148_13, s_148_16, s_148_19, s_148_20, s_148_23, s_148_24, s_148_25, s_148_26, s_148_27, s_148_28, r_148_28, s_148_31, r_148_31, s_148_34, s_148_35, s_148_36, s_148_37, s_148_38, s_148_39, s_148_40, s_148_41, r_148_41, s_148_44, s_148_45, s_148_46, r_148_46, s_148_49, s_148_50, s_148_51, s_148_52, s_148_53, s_148_54, s_148_55, r_148_55, s_148_58, s_148_59, s_148_60, s_148_61, s_148_62, r_148_62, s_148_65, s_148_66, s_148_69, s_148_71, s_148_72, s_148_73, s_148_74, s_148_75, s_148_76, s_148_77, s_148_78, s_148_79, s_148_80, s_148_81, s_148_82, s_148_83, s_148_84, r_148_84, s_148_87, s_148_88, s_148_91, s_148_93, s_148_94, s_148_95, s_148_96, s_148_97, s_148_98, s_148_101, s_148_102, s_148_103, s_148_104, r_148_104, s_148_107, s_148_110, s_148_111, s_148_112, s_148_113, s_148_114, s_148_115, s_148_116, r_148_116, s_148_119, s_148_120, s_148_121, r_148_121, s_148_124, s_148_125, s_148_128, s_148_130, s_148_131, s_148_132, s_148_133, s_148_134, s_148_135, jI_mul, jI_add, jI_tnc, jI_ixT, true_and, and_true, bZ_0, bZ_1, bZ_b, jI_nz, jI_div, jI_rem, jI_mod, Nat.add_zero, bI_if, not_false_iff, if_true, if_false, eq_self, MG_g, MG_u, m_ofN, m_guilty, m_less, m_lays, ← Int32.not_lt (a := jI 0)]
  unfold hrS
  by_cases h1 : ¬ gu g 12 (g 12 + jI 1) (75 + 9 * b + 8) < jI 0 ∧ gu g 12 (g 12 + jI 1) 0 - jI 168 ≤ gu g 12 (g 12 + jI 1) (75 + 9 * b + 8)
  · simp only [← Int32.not_lt (b := jI 0), if_pos h1]
  · simp only [← Int32.not_lt (b := jI 0), if_neg h1]
    by_cases h2 : jI 0 < gu g 12 (g 12 + jI 1) (75 + 9 * a + 3)
    · simp only [h2, not_true, if_true, if_false]
    · simp only [h2, not_false_iff, if_true, if_false]
theorem cA_of {g : Gr} {i a : Nat} (h : g (183 + 2 * i) = jI a) (ha : a < 12) : cA g i = a := by
  unfold cA; rw [h, jI_tnc (by omega)]
theorem cB_of {g : Gr} {i a : Nat} (h : g (184 + 2 * i) = jI a) (ha : a < 12) : cB g i = a := by
  unfold cB; rw [h, jI_tnc (by omega)]
theorem m_hearsAll {ng nd nc : Nat} (hnd : nd ≤ 12) (hnc : nc ≤ 8) (h5 : g 5 = jI nc) (hC : ∀ i, i < nc → ∃ a b, a < 12 ∧ b < 12 ∧ g (183 + 2 * i) = jI a ∧ g (184 + 2 * i) = jI b)
    (H : K (.inl none) (MM Ln (MG σ (hrAll g nc)) lo db)) : Ev 149 (0, [.ref 368, .null], [], 0, 0, MM Ln (MG σ g) lo db) K := by
  have hr_fx : ∀ {g : Gr} {a b k : Nat}, a < 12 → b < 12 → (k = 5 ∨ (183 ≤ k)) → hrS g a b k = g k := by
    intro g a b k ha hb hk
    unfold hrS
    simp only
    split
    · simp (disch := omega) only [gu_ne]
    · split
      · simp (disch := omega) only [gu_ne]
      · simp (disch := omega) only [gu_ne]
  simp (disch := omega) only [s_149_0, s_149_1, s_149_3, s_149_4, s_149_7, s_149_8, s_149_9, s_149_12, s_149_13, s_149_14, s_149_17, s_149_20, s_149_21, s_149_22, s_149_23, s_149_24, s_149_25, s_149_26, s_149_29, s_149_32, s_149_33, s_149_34, s_149_35, s_149_36, s_149_37, s_149_38, s_149_39, r_149_39, s_149_42, s_149_45, s_149_48, s_149_49, s_149_52, s_149_53, s_149_54, s_149_55, jI_mul, jI_add, jI_tnc, jI_ixT, true_and, and_true, bZ_0, bZ_1, bZ_b, jI_nz, jI_div, jI_rem, jI_mod, Nat.add_zero, bI_if, not_false_iff, if_true, if_false, eq_self]
  have inv : ∀ i, i ≤ nc → ∀ k, (k = 5 ∨ 183 ≤ k) → itN i (fun i g => hrS g (cA g i) (cB g i)) g k = g k := by
    intro i
    induction i with
    | zero => exact fun _ _ _ => rfl
    | succ i ih =>
      intro hi k hk
      obtain ⟨a, b, ha, hb, ea, eb⟩ := hC i (by omega)
      have e1 : cA (itN i (fun i g => hrS g (cA g i) (cB g i)) g) i = a := cA_of ((ih (by omega) _ (by omega)).trans ea) ha
      have e2 : cB (itN i (fun i g => hrS g (cA g i) (cB g i)) g) i = b := cB_of ((ih (by omega) _ (by omega)).trans eb) hb
      rw [itN_succ, e1, e2, hr_fx ha hb hk, ih (by omega) k hk]
  refine lup0 nc (fun i x => x = (2, [.ref 368, .int (jI i)], [], 0, 0, MM Ln (MG σ (itN i (fun i g => hrS g (cA g i) (cB g i)) g)) lo db)) rfl ?_ ?_
  · rintro i x hi rfl hn
    obtain ⟨a, b, ha, hb, ea, eb⟩ := hC i hi
    have hv := inv i (by omega)
    have e1 : cA (itN i (fun i g => hrS g (cA g i) (cB g i)) g) i = a := cA_of ((hv _ (by omega)).trans ea) ha
    have e2 : cB (itN i (fun i g => hrS g (cA g i) (cB g i)) g) i = b := cB_of ((hv _ (by omega)).trans eb) hb
    have e5 := (hv 5 (Or.inl rfl)).trans h5
    have e3 := (hv (183 + 2 * i) (by omega)).trans ea
    have e4 : itN i (fun i g => hrS g (cA g i) (cB g i)) g (183 + 2 * i + 1) = jI b := (hv _ (by omega)).trans (by rw [show 183 + 2 * i + 1 = 184 + 2 * i by omega]; exact eb)
    have hn := hn _ rfl
    rw [itN_succ, e1, e2] at hn
    generalize itN i (fun i g => hrS g (cA g i) (cB g i)) g = z at *
    rw [s_149_2]
    simp (disch := omega) only [s_149_0, s_149_1, s_149_3, s_149_4, s_149_7, s_149_8, s_149_9, s_149_12, s_149_13, s_149_14, s_149_17, s_149_20, s_149_21, s_149_22, s_149_23, s_149_24, s_149_25, s_149_26, s_149_29, s_149_32, s_149_33, s_149_34, s_149_35, s_149_36, s_149_37, s_149_38, s_149_39, r_149_39, s_149_42, s_149_45, s_149_48, s_149_49, s_149_52, s_149_53, s_149_54, s_149_55, jI_mul, jI_add, jI_tnc, jI_ixT, true_and, and_true, bZ_0, bZ_1, bZ_b, jI_nz, jI_div, jI_rem, jI_mod, Nat.add_zero, bI_if, not_false_iff, if_true, if_false, eq_self, MG_g, e5, jI_le, e3, e4, m_hears]
    rw [if_neg (by omega)]
    exact hn
  · rintro x rfl
    have e5 := (inv nc (Nat.le_refl _) 5 (Or.inl rfl)).trans h5
    rw [s_149_2]
    simp (disch := omega) only [s_149_0, s_149_1, s_149_3, s_149_4, s_149_7, s_149_8, s_149_9, s_149_12, s_149_13, s_149_14, s_149_17, s_149_20, s_149_21, s_149_22, s_149_23, s_149_24, s_149_25, s_149_26, s_149_29, s_149_32, s_149_33, s_149_34, s_149_35, s_149_36, s_149_37, s_149_38, s_149_39, r_149_39, s_149_42, s_149_45, s_149_48, s_149_49, s_149_52, s_149_53, s_149_54, s_149_55, jI_mul, jI_add, jI_tnc, jI_ixT, true_and, and_true, bZ_0, bZ_1, bZ_b, jI_nz, jI_div, jI_rem, jI_mod, Nat.add_zero, bI_if, not_false_iff, if_true, if_false, eq_self, MG_g, MG_u, e5, jI_le, Nat.le_refl]
    exact H
end
