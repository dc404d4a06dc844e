/-! THE REFERENCE: hours go by -/
set_option maxRecDepth 16384
section
variable {K : Ou → Me → Prop} {Ln : Nat} {σ : Nat → Nat → Int32} {g : Gr} {lo : Nat → Nat → Int64} {db : Nat → Nat → UInt64} {μ : Me} {ch : Nat} {wi : Bool} {oh : Nat → Nat → Bool} {ng nd nc h : Nat}
def CPL (g : Gr) (nc : Nat) : Prop := ∀ i, i < nc → ∃ a b, a < 12 ∧ b < 12 ∧ g (183 + 2 * i) = jI a ∧ g (184 + 2 * i) = jI b
def Bas (g : Gr) (oh : Nat → Nat → Bool) (ng nd nc h : Nat) : Prop := ng ≤ 6 ∧ nd ≤ 12 ∧ nc ≤ 8 ∧ g 0 = jI h ∧ g 3 = jI ng ∧ g 4 = jI nd ∧ g 5 = jI nc ∧ OHm g oh ∧ CPL g nc
/-- an hour up to the hearing -/
theorem hourS_mid (hB : Bas g oh ng nd nc h) : ∃ w : Gr, (∀ k, (k ≤ 6 ∨ (15 ≤ k ∧ k < 75 ∧ 4 ≤ (k - 15) % 10) ∨ 183 ≤ k) → w k = g k) ∧ CPL w nc ∧
    hourS oh ng nd nc h g = gu (if h % 168 = 167 then lkS (if h % 168 = 84 then hrAll w nc else w) ng else (if h % 168 = 84 then hrAll w nc else w)) 0 ((if h % 168 = 167 then lkS (if h % 168 = 84 then hrAll w nc else w) ng else (if h % 168 = 84 then hrAll w nc else w)) 0 + jI 1) := by
  obtain ⟨b1, b2, b3, b4, b5, b6, b7, b8, b9⟩ := hB
  have e1 : ∀ k, k < 75 ∨ 183 ≤ k → (if h % 24 ≤ 5 then g else thrS g nd) k = g k := by
    intro k hk
    split
    · rfl
    · exact thrS_fx hk b2
  unfold hourS
  dsimp only
  generalize (if h % 24 ≤ 5 then g else thrS g nd) = g1 at *
  have e2 : ∀ k, (k ≤ 6 ∨ (15 ≤ k ∧ k < 75 ∧ 4 ≤ (k - 15) % 10) ∨ 183 ≤ k) → (itN ng (dwnStep oh (h % 168) nd) (gu g1 7 (g1 7 + g1 1), gu g1 7 (g1 7 + g1 1) 1)).1 k = g k := by
    intro k hk
    by_cases h1 : 183 ≤ k
    · exact (dwn_hi h1 b2 b1).trans ((gu_ne (by omega)).trans (e1 k (by omega)))
    · exact (dwn_fx (by unfold Fx; omega)).trans ((gu_ne (by omega)).trans (e1 k (by omega)))
  generalize itN ng (dwnStep oh (h % 168) nd) (gu g1 7 (g1 7 + g1 1), gu g1 7 (g1 7 + g1 1) 1) = z at *
  have e3 : ∀ k, (k ≤ 6 ∨ (15 ≤ k ∧ k < 75 ∧ 4 ≤ (k - 15) % 10) ∨ 183 ≤ k) → (if h % 24 ≤ 5 then itN nd (thvStep (z.1 0)) z else z).1 k = g k := by
    intro k hk
    split
    · by_cases h1 : 183 ≤ k
      · exact (thvN_hi h1 b2).trans (e2 k hk)
      · exact (thvN_fx (by omega) (by omega)).trans (e2 k hk)
    · exact e2 k hk
  generalize (if h % 24 ≤ 5 then itN nd (thvStep (z.1 0)) z else z) = y at *
  refine ⟨gu y.1 11 (y.1 11 + y.2), fun k hk => (gu_ne (by omega)).trans (e3 k hk), fun i hi => ?_, rfl⟩
  rw [gu_ne (by omega), gu_ne (by omega), e3 _ (by omega), e3 _ (by omega)]
  exact b9 i hi
theorem lkS_o {n k : Nat} (hk : k < 15 ∨ 75 ≤ k ∨ (k - 15) % 10 ≠ 1) (hn : n ≤ 6) : lkS g n k = g k := by
  unfold lkS
  induction n with
  | zero => rfl
  | succ n ih => rw [itN_succ, gu_ne (by omega)]; exact ih (by omega)
theorem hourS_bas (hB : Bas g oh ng nd nc h) : Bas (hourS oh ng nd nc h g) oh ng nd (if h % 168 = 84 then 0 else nc) (h + 1) := by
  obtain ⟨w, w1, w2, w3⟩ := hourS_mid hB
  obtain ⟨b1, b2, b3, b4, b5, b6, b7, b8, b9⟩ := hB
  rw [w3]
  have v1 : ∀ k, (k < 5 ∨ (15 ≤ k ∧ k < 75 ∧ 4 ≤ (k - 15) % 10)) → (if h % 168 = 84 then hrAll w nc else w) k = g k := by
    intro k hk
    split
    · exact (hrAll_lo w2 (by omega)).trans (w1 k (by omega))
    · exact w1 k (by omega)
  have v5 : (if h % 168 = 84 then hrAll w nc else w) 5 = jI (if h % 168 = 84 then 0 else nc) := by
    split
    · exact gu_at
    · exact (w1 5 (by omega)).trans b7
  have vC : CPL (if h % 168 = 84 then hrAll w nc else w) (if h % 168 = 84 then 0 else nc) := by
    split
    · exact fun i hi => absurd hi (Nat.not_lt_zero i)
    · exact w2
  generalize (if h % 168 = 84 then hrAll w nc else w) = u at *
  have hnc : (if h % 168 = 84 then 0 else nc) ≤ 8 := by split <;> omega
  generalize (if h % 168 = 84 then 0 else nc) = nc' at *
  have t1 : ∀ k, (k < 15 ∨ 75 ≤ k ∨ (k - 15) % 10 ≠ 1) → (if h % 168 = 167 then lkS u ng else u) k = u k := by
    intro k hk
    split
    · exact lkS_o hk b1
    · rfl
  generalize (if h % 168 = 167 then lkS u ng else u) = t at *
  refine ⟨b1, b2, hnc, ?_, ?_, ?_, ?_, ?_, ?_⟩
  · rw [gu_at, t1 0 (by omega), v1 0 (by omega), b4, jI_add]
  · rw [gu_ne (by omega), t1 3 (by omega), v1 3 (by omega), b5]
  · rw [gu_ne (by omega), t1 4 (by omega), v1 4 (by omega), b6]
  · rw [gu_ne (by omega), t1 5 (by omega), v5]
  · exact b8.of (fun k p hk hp => by rw [gu_ne (by omega), t1 _ (by omega), v1 _ (by omega)])
  · intro i hi
    rw [gu_ne (by omega), gu_ne (by omega), t1 _ (by omega), t1 _ (by omega)]
    exact vC i hi
/-- n hours from the hour h on, nc complaints waiting: the numbers, and how many wait -/
def hoursS (oh : Nat → Nat → Bool) (ng nd nc h : Nat) (g : Gr) : Nat → Gr × Nat
  | 0 => (g, nc)
  | n + 1 => (hourS oh ng nd (hoursS oh ng nd nc h g n).2 (h + n) (hoursS oh ng nd nc h g n).1, if (h + n) % 168 = 84 then 0 else (hoursS oh ng nd nc h g n).2)
theorem hoursS_bas (hB : Bas g oh ng nd nc h) : ∀ n, Bas (hoursS oh ng nd nc h g n).1 oh ng nd (hoursS oh ng nd nc h g n).2 (h + n)
  | 0 => hB
  | n + 1 => hourS_bas (hoursS_bas hB n)
theorem m_goesB (hB : Bas g oh ng nd nc h) (hh : h < 2147483648) (H : ∀ σ', FR σ σ' → K (.inl none) (MM Ln (MG σ' (hourS oh ng nd nc h g)) lo db)) : Ev 150 (0, [.ref 368, .null, .null, .null], [], 0, 0, MM Ln (MG σ g) lo db) K :=
  m_goesBy hB.1 hB.2.1 hB.2.2.1 hB.2.2.2.1 hB.2.2.2.2.1 hB.2.2.2.2.2.1 hB.2.2.2.2.2.2.1 hh hB.2.2.2.2.2.2.2.1 hB.2.2.2.2.2.2.2.2 H
theorem m_pass {w : Int32} (hB : Bas g oh ng nd nc h) (hh : h < 2000000000) (hw : σ 368 7 = bI (wi = true)) (hc : σ 368 6 = jI ch) (hch : ch ≤ 8) (F1 : ¬ rng w 1 200 → K (.inl (some (.int (jI 0)))) (MM Ln (MG (u2 σ 368 8 (jI 1)) g) lo db))
    (H : ∀ n σ', 1 ≤ n → n ≤ 200 → w = jI n → FR (KB σ g ch wi) σ' → K (.inl (some (.int ((hoursS oh ng nd nc h g n).1 9 - g 9)))) (MM Ln (MG σ' (hoursS oh ng nd nc h g n).1) lo db)) : Ev 151 (0, [.ref 368, .int w, .null, .null], [], 0, 0, MM Ln (MG σ g) lo db) K := by
  simp (disch := omega) only [s_151_0, s_151_1, s_151_2, s_151_3, s_151_6, r_151_6, s_151_9, s_151_12, s_151_13, s_151_16, s_151_17, r_151_17, s_151_20, s_151_23, s_151_24, s_151_26, s_151_27, s_151_30, r_151_30, s_151_33, s_151_34, s_151_37, s_151_39, s_151_40, s_151_41, s_151_42, s_151_44, s_151_45, s_151_48, s_151_49, r_151_49, s_151_52, s_151_55, s_151_58, s_151_59, s_151_62, s_151_64, s_151_65, s_151_66, s_151_67, jI_mul, jI_add, jI_tnc, jI_ixT, true_and, and_true, bZ_0, bZ_1, bZ_b, jI_nz, jI_div, jI_rem, jI_mod, Nat.add_zero, bI_if, not_false_iff, if_true, if_false, eq_self, m_in]
  by_cases h1 : rng w 1 200
  · rw [if_pos h1]
    obtain ⟨n, hn1, rfl⟩ := jI_of (v := w) (by
      have := h1.1
      rw [Int32.not_lt] at this
      exact Int32.le_trans (by decide : (0 : Int32) ≤ jI 1) this)
    have h2 := h1.1
    have h3 := h1.2
    rw [jI_lt hn1 (by decide)] at h2
    rw [jI_lt (by decide) hn1] at h3
    simp (disch := omega) only [s_151_0, s_151_1, s_151_2, s_151_3, s_151_6, r_151_6, s_151_9, s_151_12, s_151_13, s_151_16, s_151_17, r_151_17, s_151_20, s_151_23, s_151_24, s_151_25, s_151_26, s_151_27, s_151_30, r_151_30, s_151_33, s_151_34, s_151_37, s_151_39, s_151_40, s_151_41, s_151_42, s_151_44, s_151_45, s_151_48, s_151_49, r_151_49, s_151_52, s_151_55, s_151_58, s_151_59, s_151_62, s_151_64, s_151_65, s_151_66, s_151_67, jI_mul, jI_add, jI_tnc, jI_ixT, true_and, and_true, bZ_0, bZ_1, bZ_b, jI_nz, jI_div, jI_rem, jI_mod, Nat.add_zero, bI_if, not_false_iff, if_true, if_false, eq_self, m_fail0, m_keepsC hw hc hch, MG_g]
    refine lup0 n (fun i x => ∃ σ', x = (43, [.ref 368, .int (jI n), .int (g 9), .int (jI i)], [], 0, 0, MM Ln (MG σ' (hoursS oh ng nd nc h g i).1) lo db) ∧ FR (KB σ g ch wi) σ') ⟨_, rfl, FR.refl⟩ ?_ ?_
    · rintro i x hi ⟨σ', rfl, f1⟩ hn
      rw [s_151_43]
      simp (disch := omega) only [s_151_0, s_151_1, s_151_2, s_151_3, s_151_6, r_151_6, s_151_9, s_151_12, s_151_13, s_151_16, s_151_17, r_151_17, s_151_20, s_151_23, s_151_24, s_151_25, s_151_26, s_151_27, s_151_30, r_151_30, s_151_33, s_151_34, s_151_37, s_151_39, s_151_40, s_151_41, s_151_42, s_151_44, s_151_45, s_151_48, s_151_49, r_151_49, s_151_52, s_151_55, s_151_58, s_151_59, s_151_62, s_151_64, s_151_65, s_151_66, s_151_67, jI_mul, jI_add, jI_tnc, jI_ixT, true_and, and_true, bZ_0, bZ_1, bZ_b, jI_nz, jI_div, jI_rem, jI_mod, Nat.add_zero, bI_if, not_false_iff, if_true, if_false, eq_self, jI_le]
      rw [if_neg (by omega)]
      refine m_goesB (hoursS_bas hB i) (by omega) ?_
      intro σ'' f2
      simp (disch := omega) only [s_151_0, s_151_1, s_151_2, s_151_3, s_151_6, r_151_6, s_151_9, s_151_12, s_151_13, s_151_16, s_151_17, r_151_17, s_151_20, s_151_23, s_151_24, s_151_25, s_151_26, s_151_27, s_151_30, r_151_30, s_151_33, s_151_34, s_151_37, s_151_39, s_151_40, s_151_41, s_151_42, s_151_44, s_151_45, s_151_48, s_151_49, r_151_49, s_151_52, s_151_55, s_151_58, s_151_59, s_151_62, s_151_64, s_151_65, s_151_66, s_151_67, jI_mul, jI_add, jI_tnc, jI_ixT, true_and, and_true, bZ_0, bZ_1, bZ_b, jI_nz, jI_div, jI_rem, jI_mod, Nat.add_zero, bI_if, not_false_iff, if_true, if_false, eq_self]
      exact hn _ ⟨σ'', rfl, f1.trans f2⟩
    · rintro x ⟨σ', rfl, f1⟩
      rw [s_151_43]
      simp (disch := omega) only [s_151_0, s_151_1, s_151_2, s_151_3, s_151_6, r_151_6, s_151_9, s_151_12, s_151_13, s_151_16, s_151_17, r_151_17, s_151_20, s_151_23, s_151_24, s_151_25, s_151_26, s_151_27, s_151_30, r_151_30, s_151_33, s_151_34, s_151_37, s_151_39, s_151_40, s_151_41, s_151_42, s_151_44, s_151_45, s_151_48, s_151_49, r_151_49, s_151_52, s_151_55, s_151_58, s_151_59, s_151_62, s_151_64, s_151_65, s_151_66, s_151_67, jI_mul, jI_add, jI_tnc, jI_ixT, true_and, and_true, bZ_0, bZ_1, bZ_b, jI_nz, jI_div, jI_rem, jI_mod, Nat.add_zero, bI_if, not_false_iff, if_true, if_false, eq_self, jI_le, Nat.le_refl, MG_g]
      exact H n σ' (by omega) (by omega) rfl f1
  · rw [if_neg h1]
    simp (disch := omega) only [s_151_0, s_151_1, s_151_2, s_151_3, s_151_6, r_151_6, s_151_9, s_151_12, s_151_13, s_151_16, s_151_17, r_151_17, s_151_20, s_151_23, s_151_24, s_151_26, s_151_27, s_151_30, r_151_30, s_151_33, s_151_34, s_151_37, s_151_39, s_151_40, s_151_41, s_151_42, s_151_44, s_151_45, s_151_48, s_151_49, r_151_49, s_151_52, s_151_55, s_151_58, s_151_59, s_151_62, s_151_64, s_151_65, s_151_66, s_151_67, jI_mul, jI_add, jI_tnc, jI_ixT, true_and, and_true, bZ_0, bZ_1, bZ_b, jI_nz, jI_div, jI_rem, jI_mod, Nat.add_zero, bI_if, not_false_iff, if_true, if_false, eq_self, m_fail1]
    exact F1 h1
end
