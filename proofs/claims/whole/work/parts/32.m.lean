/-! THE REFERENCE: an hour -/
set_option maxRecDepth 16384
section
variable {K : Ou → Me → Prop} {Ln : Nat} {σ : Nat → Nat → Int32} {g : Gr} {lo : Nat → Nat → Int64} {db : Nat → Nat → UInt64} {μ : Me}
theorem lkS_fx {n k : Nat} (hk : k < 15) : lkS g n k = g k := by
  unfold lkS
  induction n with
  | zero => rfl
  | succ n ih =>
    rw [itN_succ]
    simp (disch := omega) only [gu_ne]
    exact ih
theorem thrS_fx {n k : Nat} (hk : k < 75 ∨ 183 ≤ k) (hn : n ≤ 12) : thrS g n k = g k := by
  unfold thrS
  induction n with
  | zero => rfl
  | succ n ih =>
    rw [itN_succ]
    simp (disch := omega) only [gu_ne]
    exact ih (by omega)
theorem insL_lt {k c B : Nat} : ∀ (p : Nat) (r : Nat → Nat), p ≤ c → (∀ j, j ≤ c → j ≠ p → r j < B) → (insL g k r p).2 ≤ c ∧ ∀ j, j ≤ c → j ≠ (insL g k r p).2 → (insL g k r p).1 j < B
  | 0, r, hp, hr => ⟨Nat.zero_le c, hr⟩
  | p + 1, r, hp, hr => by
    unfold insL
    by_cases ha : ahd g k (r p)
    · rw [if_pos ha]
      refine insL_lt p _ (by omega) ?_
      intro j hj hne
      by_cases hj1 : j = p + 1
      · simp only [if_pos hj1]; exact hr p (by omega) (by omega)
      · simp only [if_neg hj1]; exact hr j hj hj1
    · rw [if_neg ha]
      exact ⟨hp, hr⟩
theorem ordS_lt {gt : Int32} : ∀ (n : Nat), (ordS g gt n).2 ≤ n ∧ ∀ j, j < (ordS g gt n).2 → (ordS g gt n).1 j < n
  | 0 => ⟨Nat.le_refl 0, fun j hj => absurd hj (Nat.not_lt_zero j)⟩
  | n + 1 => by
    have ih := ordS_lt (gt := gt) n
    have e : ordS g gt (n + 1) = if g (75 + 9 * n) = gt then insR g n (ordS g gt n) else ordS g gt n := rfl
    rw [e]
    by_cases hg : g (75 + 9 * n) = gt
    · rw [if_pos hg]
      have h1 := insL_lt (g := g) (k := n) (c := (ordS g gt n).2) (B := n) (ordS g gt n).2 (ordS g gt n).1 (Nat.le_refl _) (fun j hj hne => ih.2 j (by omega))
      refine ⟨Nat.succ_le_succ ih.1, ?_⟩
      intro j hj
      have hj : j < (ordS g gt n).2 + 1 := hj
      show (if j = (insL g n (ordS g gt n).1 (ordS g gt n).2).2 then n else (insL g n (ordS g gt n).1 (ordS g gt n).2).1 j) < n + 1
      by_cases hj2 : j = (insL g n (ordS g gt n).1 (ordS g gt n).2).2
      · rw [if_pos hj2]; omega
      · rw [if_neg hj2]
        have := h1.2 j (by omega) hj2
        omega
    · rw [if_neg hg]
      exact ⟨by omega, fun j hj => by have := ih.2 j hj; omega⟩
theorem watN_hi {n k : Nat} {r : Nat → Nat} {z : Gr × Int32} (hk : 183 ≤ k) (hr : ∀ j, j < n → r j < 12) : (itN n (watStep r) z).1 k = z.1 k := by
  induction n with
  | zero => rfl
  | succ n ih =>
    rw [itN_succ, ← ih (fun j hj => hr j (by omega))]
    generalize itN n (watStep r) z = y
    have := hr n (by omega)
    unfold watStep
    simp (disch := omega) only [gu_ne]
theorem watS_hi {gt nd k : Nat} {w : Int32} (hk : 183 ≤ k) (hnd : nd ≤ 12) (hgt : gt < 6) : (watS g gt w nd).1 k = g k := by
  have := watN_hi (n := (ordS g (jI gt) nd).2) (r := (ordS g (jI gt) nd).1) (z := (g, w)) hk (fun j hj => by have := (ordS_lt (g := g) (gt := jI gt) nd).2 j hj; omega)
  unfold watS
  simp (disch := omega) only [gu_ne]
  exact this
theorem dwn_hi {oh : Nat → Nat → Bool} {hw nd n k : Nat} {z : Gr × Int32} (hk : 183 ≤ k) (hnd : nd ≤ 12) (hn : n ≤ 6) : (itN n (dwnStep oh hw nd) z).1 k = z.1 k := by
  induction n with
  | zero => rfl
  | succ n ih =>
    rw [itN_succ, ← ih (by omega)]
    generalize itN n (dwnStep oh hw nd) z = y
    unfold dwnStep
    by_cases ho : oh n hw = true
    · simp (disch := omega) only [if_pos ho, watS_hi hk hnd (show n < 6 by omega), gu_ne]
    · simp (disch := omega) only [if_neg ho, gu_ne]
theorem thvN_hi {h : Int32} {n k : Nat} {z : Gr × Int32} (hk : 183 ≤ k) (hn : n ≤ 12) : (itN n (thvStep h) z).1 k = z.1 k := by
  induction n with
  | zero => rfl
  | succ n ih =>
    rw [itN_succ, ← ih (by omega)]
    generalize itN n (thvStep h) z = y
    unfold thvStep
    by_cases h1 : y.1 (75 + 9 * n + 5) = jI 0
    · rw [if_pos h1]
    · rw [if_neg h1]
      by_cases h2 : jI 0 < drS y.1 n y.2
      · simp (disch := omega) only [if_pos h2, gu_ne]
      · simp (disch := omega) only [if_neg h2, gu_ne]
theorem hr_lo {a b k : Nat} (ha : a < 12) (hb : b < 12) (hk : k ≤ 5 ∨ (15 ≤ k ∧ k < 75) ∨ 183 ≤ k) : hrS g a b k = g k := by
  unfold hrS
  simp only
  split
  · simp (disch := omega) only [gu_ne]
  · split
    · simp (disch := omega) only [gu_ne]
    · simp (disch := omega) only [gu_ne]
theorem hrN_lo {nc : Nat} (hC : ∀ i, i < nc → ∃ a b, a < 12 ∧ b < 12 ∧ g (183 + 2 * i) = jI a ∧ g (184 + 2 * i) = jI b) : ∀ i, i ≤ nc → ∀ k, (k ≤ 5 ∨ (15 ≤ k ∧ k < 75) ∨ 183 ≤ k) → itN i (fun i g => hrS g (cA g i) (cB g i)) g k = g k := by
  intro i
  induction i with
  | zero => exact fun _ _ _ => rfl
  | succ i ih =>
    intro hi k hk
    obtain ⟨a, b, ha, hb, ea, eb⟩ := hC i (by omega)
    have e1 : cA (itN i (fun i g => hrS g (cA g i) (cB g i)) g) i = a := cA_of ((ih (by omega) _ (by omega)).trans ea) ha
    have e2 : cB (itN i (fun i g => hrS g (cA g i) (cB g i)) g) i = b := cB_of ((ih (by omega) _ (by omega)).trans eb) hb
    rw [itN_succ, e1, e2, hr_lo ha hb hk, ih (by omega) k hk]
theorem hrAll_lo {nc k : Nat} (hC : ∀ i, i < nc → ∃ a b, a < 12 ∧ b < 12 ∧ g (183 + 2 * i) = jI a ∧ g (184 + 2 * i) = jI b) (hk : k < 5 ∨ (15 ≤ k ∧ k < 75)) : hrAll g nc k = g k := by
  unfold hrAll
  rw [gu_ne (by omega)]
  exact hrN_lo hC nc (Nat.le_refl _) k (by omega)
theorem m_gb3 {ng h : Nat} {v1 v2 : Int32} (hng : ng ≤ 6) (h3 : g 3 = jI ng) (h0 : g 0 = jI h) (hh : h < 2147483648)
    (H : K (.inl none) (MM Ln (MG σ (gu (if h % 168 = 167 then lkS g ng else g) 0 ((if h % 168 = 167 then lkS g ng else g) 0 + jI 1))) lo db)) :
    Ev 150 (132, [.ref 368, .int v1, .int v2, .null], [], 0, 0, MM Ln (MG σ g) lo db) K := by
  simp (disch := omega) only [s_150_0, s_150_1, s_150_4, s_150_5, s_150_6, s_150_8, s_150_9, s_150_10, s_150_13, s_150_14, s_150_17, s_150_18, s_150_19, s_150_20, s_150_21, s_150_22, s_150_23, s_150_26, s_150_27, s_150_28, s_150_31, s_150_32, s_150_35, s_150_36, s_150_37, s_150_38, s_150_40, s_150_41, s_150_42, s_150_43, r_150_43, s_150_46, s_150_47, s_150_48, s_150_49, r_150_49, s_150_52, s_150_53, r_150_53, s_150_56, r_150_56, s_150_59, s_150_62, s_150_65, s_150_66, s_150_69, s_150_71, s_150_72, s_150_73, s_150_74, s_150_77, s_150_78, s_150_79, s_150_80, s_150_81, s_150_82, s_150_83, s_150_86, s_150_87, s_150_88, r_150_88, s_150_91, s_150_92, s_150_93, s_150_96, s_150_97, s_150_98, r_150_98, s_150_101, s_150_102, s_150_103, s_150_106, s_150_108, s_150_109, s_150_110, s_150_111, s_150_112, s_150_113, s_150_114, s_150_117, s_150_118, s_150_119, s_150_122, s_150_123, s_150_125, s_150_128, s_150_129, r_150_129, s_150_132, s_150_133, s_150_135, s_150_136, s_150_139, s_150_140, s_150_141, s_150_144, s_150_145, s_150_148, s_150_149, s_150_150, s_150_153, s_150_154, s_150_157, s_150_160, s_150_161, s_150_164, s_150_166, s_150_168, s_150_169, s_150_170, s_150_171, s_150_172, s_150_173, s_150_175, s_150_176, s_150_177, s_150_178, r_150_178, s_150_181, s_150_182, s_150_183, r_150_183, s_150_186, s_150_187, s_150_190, s_150_193, s_150_194, s_150_197, s_150_198, s_150_199, s_150_200, s_150_201, s_150_202, s_150_203, jI_mul, jI_add, jI_tnc, jI_ixT, true_and, and_true, bZ_0, bZ_1, bZ_b, jI_nz, jI_div, jI_rem, jI_mod, Nat.add_zero, bI_if, not_false_iff, if_true, if_false, eq_self]
  by_cases hw : h % 168 = 167
  · simp only [if_pos hw] at H
    have hq : (jI (h % 168) = jI 167) = True := eq_true (by rw [hw])
    refine lup0 ng (fun i x => x = (134, [.ref 368, .int v1, .int v2, .int (jI i)], [], 0, 0, MM Ln (MG σ (lkS g i)) lo db)) rfl ?_ ?_
    · rintro i x hi rfl hn
      have e3 := (lkS_fx (g := g) (n := i) (k := 3) (by omega)).trans h3
      have e0 := (lkS_fx (g := g) (n := i) (k := 0) (by omega)).trans h0
      have hn := hn _ rfl
      have en : lkS g (i + 1) = gu (lkS g i) (15 + 10 * i + 1) (mn (jI 50) (lkS g i (15 + 10 * i + 1) + jI 1)) := rfl
      rw [en] at hn
      generalize lkS g i = z at *
      rw [s_150_134]
      simp (disch := omega) only [s_150_0, s_150_1, s_150_4, s_150_5, s_150_6, s_150_8, s_150_9, s_150_10, s_150_13, s_150_14, s_150_17, s_150_18, s_150_19, s_150_20, s_150_21, s_150_22, s_150_23, s_150_26, s_150_27, s_150_28, s_150_31, s_150_32, s_150_35, s_150_36, s_150_37, s_150_38, s_150_40, s_150_41, s_150_42, s_150_43, r_150_43, s_150_46, s_150_47, s_150_48, s_150_49, r_150_49, s_150_52, s_150_53, r_150_53, s_150_56, r_150_56, s_150_59, s_150_62, s_150_65, s_150_66, s_150_69, s_150_71, s_150_72, s_150_73, s_150_74, s_150_77, s_150_78, s_150_79, s_150_80, s_150_81, s_150_82, s_150_83, s_150_86, s_150_87, s_150_88, r_150_88, s_150_91, s_150_92, s_150_93, s_150_96, s_150_97, s_150_98, r_150_98, s_150_101, s_150_102, s_150_103, s_150_106, s_150_108, s_150_109, s_150_110, s_150_111, s_150_112, s_150_113, s_150_114, s_150_117, s_150_118, s_150_119, s_150_122, s_150_123, s_150_125, s_150_128, s_150_129, r_150_129, s_150_132, s_150_133, s_150_135, s_150_136, s_150_139, s_150_140, s_150_141, s_150_144, s_150_145, s_150_148, s_150_149, s_150_150, s_150_153, s_150_154, s_150_157, s_150_160, s_150_161, s_150_164, s_150_166, s_150_168, s_150_169, s_150_170, s_150_171, s_150_172, s_150_173, s_150_175, s_150_176, s_150_177, s_150_178, r_150_178, s_150_181, s_150_182, s_150_183, r_150_183, s_150_186, s_150_187, s_150_190, s_150_193, s_150_194, s_150_197, s_150_198, s_150_199, s_150_200, s_150_201, s_150_202, s_150_203, jI_mul, jI_add, jI_tnc, jI_ixT, true_and, and_true, bZ_0, bZ_1, bZ_b, jI_nz, jI_div, jI_rem, jI_mod, Nat.add_zero, bI_if, not_false_iff, if_true, if_false, eq_self, MG_g, MG_u, e3, e0, jI_le, hq, m_ofG, m_less]
      rw [if_neg (by omega)]
      exact hn
    · rintro x rfl
      have e3 := (lkS_fx (g := g) (n := ng) (k := 3) (by omega)).trans h3
      rw [s_150_134]
      simp (disch := omega) only [s_150_0, s_150_1, s_150_4, s_150_5, s_150_6, s_150_8, s_150_9, s_150_10, s_150_13, s_150_14, s_150_17, s_150_18, s_150_19, s_150_20, s_150_21, s_150_22, s_150_23, s_150_26, s_150_27, s_150_28, s_150_31, s_150_32, s_150_35, s_150_36, s_150_37, s_150_38, s_150_40, s_150_41, s_150_42, s_150_43, r_150_43, s_150_46, s_150_47, s_150_48, s_150_49, r_150_49, s_150_52, s_150_53, r_150_53, s_150_56, r_150_56, s_150_59, s_150_62, s_150_65, s_150_66, s_150_69, s_150_71, s_150_72, s_150_73, s_150_74, s_150_77, s_150_78, s_150_79, s_150_80, s_150_81, s_150_82, s_150_83, s_150_86, s_150_87, s_150_88, r_150_88, s_150_91, s_150_92, s_150_93, s_150_96, s_150_97, s_150_98, r_150_98, s_150_101, s_150_102, s_150_103, s_150_106, s_150_108, s_150_109, s_150_110, s_150_111, s_150_112, s_150_113, s_150_114, s_150_117, s_150_118, s_150_119, s_150_122, s_150_123, s_150_125, s_150_128, s_150_129, r_150_129, s_150_132, s_150_133, s_150_135, s_150_136, s_150_139, s_150_140, s_150_141, s_150_144, s_150_145, s_150_148, s_150_149, s_150_150, s_150_153, s_150_154, s_150_157, s_150_160, s_150_161, s_150_164, s_150_166, s_150_168, s_150_169, s_150_170, s_150_171, s_150_172, s_150_173, s_150_175, s_150_176, s_150_177, s_150_178, r_150_178, s_150_181, s_150_182, s_150_183, r_150_183, s_150_186, s_150_187, s_150_190, s_150_193, s_150_194, s_150_197, s_150_198, s_150_199, s_150_200, s_150_201, s_150_202, s_150_203, jI_mul, jI_add, jI_tnc, jI_ixT, true_and, and_true, bZ_0, bZ_1, bZ_b, jI_nz, jI_div, jI_rem, jI_mod, Nat.add_zero, bI_if, not_false_iff, if_true, if_false, eq_self, MG_g, MG_u, e3, jI_le, Nat.le_refl]
      exact H
  · simp only [if_neg hw, h0, jI_add] at H
    have hq : (jI (h % 168) = jI 167) = False := eq_false (fun e => hw ((jI_inj (by omega) (by omega)).mp e))
    rw [s_150_134]
    simp (disch := omega) only [s_150_0, s_150_1, s_150_4, s_150_5, s_150_6, s_150_8, s_150_9, s_150_10, s_150_13, s_150_14, s_150_17, s_150_18, s_150_19, s_150_20, s_150_21, s_150_22, s_150_23, s_150_26, s_150_27, s_150_28, s_150_31, s_150_32, s_150_35, s_150_36, s_150_37, s_150_38, s_150_40, s_150_41, s_150_42, s_150_43, r_150_43, s_150_46, s_150_47, s_150_48, s_150_49, r_150_49, s_150_52, s_150_53, r_150_53, s_150_56, r_150_56, s_150_59, s_150_62, s_150_65, s_150_66, s_150_69, s_150_71, s_150_72, s_150_73, s_150_74, s_150_77, s_150_78, s_150_79, s_150_80, s_150_81, s_150_82, s_150_83, s_150_86, s_150_87, s_150_88, r_150_88, s_150_91, s_150_92, s_150_93, s_150_96, s_150_97, s_150_98, r_150_98, s_150_101, s_150_102, s_150_103, s_150_106, s_150_108, s_150_109, s_150_110, s_150_111, s_150_112, s_150_113, s_150_114, s_150_117, s_150_118, s_150_119, s_150_122, s_150_123, s_150_125, s_150_128, s_150_129, r_150_129, s_150_132, s_150_133, s_150_135, s_150_136, s_150_139, s_150_140, s_150_141, s_150_144, s_150_145, s_150_148, s_150_149, s_150_150, s_150_153, s_150_154, s_150_157, s_150_160, s_150_161, s_150_164, s_150_166, s_150_168, s_150_169, s_150_170, s_150_171, s_150_172, s_150_173, s_150_175, s_150_176, s_150_177, s_150_178, r_150_178, s_150_181, s_150_182, s_150_183, r_150_183, s_150_186, s_150_187, s_150_190, s_150_193, s_150_194, s_150_197, s_150_198, s_150_199, s_150_200, s_150_201, s_150_202, s_150_203, jI_mul, jI_add, jI_tnc, jI_ixT, true_and, and_true, bZ_0, bZ_1, bZ_b, jI_nz, jI_div, jI_rem, jI_mod, Nat.add_zero, bI_if, not_false_iff, if_true, if_false, eq_self, MG_g, MG_u, h3, h0, jI_le, hq, ite_self]
    exact H
theorem m_gb1 {nd h : Nat} (hnd : nd ≤ 12) (h4 : g 4 = jI nd) (h0 : g 0 = jI h) (hh : h < 2147483648)
    (H : Ev 150 (65, [.ref 368, .int (bI (h % 24 ≤ 5)), .int (jI nd), .null], [], 0, 0, MM Ln (MG σ (if h % 24 ≤ 5 then g else thrS g nd)) lo db) K) :
    Ev 150 (0, [.ref 368, .null, .null, .null], [], 0, 0, MM Ln (MG σ g) lo db) K := by
  simp (disch := omega) only [s_150_0, s_150_1, s_150_4, s_150_5, s_150_6, s_150_8, s_150_9, s_150_10, s_150_13, s_150_14, s_150_17, s_150_18, s_150_19, s_150_20, s_150_22, s_150_23, s_150_26, s_150_27, s_150_28, s_150_31, s_150_32, s_150_35, s_150_36, s_150_37, s_150_38, s_150_40, s_150_41, s_150_42, s_150_43, r_150_43, s_150_46, s_150_47, s_150_48, s_150_49, r_150_49, s_150_52, s_150_53, r_150_53, s_150_56, r_150_56, s_150_59, s_150_62, s_150_65, s_150_66, s_150_69, s_150_71, s_150_72, s_150_73, s_150_74, s_150_77, s_150_78, s_150_79, s_150_80, s_150_81, s_150_82, s_150_83, s_150_86, s_150_87, s_150_88, r_150_88, s_150_91, s_150_92, s_150_93, s_150_96, s_150_97, s_150_98, r_150_98, s_150_101, s_150_102, s_150_103, s_150_106, s_150_108, s_150_109, s_150_110, s_150_111, s_150_112, s_150_113, s_150_114, s_150_117, s_150_118, s_150_119, s_150_122, s_150_123, s_150_125, s_150_128, s_150_129, r_150_129, s_150_132, s_150_133, s_150_134, s_150_135, s_150_136, s_150_139, s_150_140, s_150_141, s_150_144, s_150_145, s_150_148, s_150_149, s_150_150, s_150_153, s_150_154, s_150_157, s_150_160, s_150_161, s_150_164, s_150_166, s_150_168, s_150_169, s_150_170, s_150_171, s_150_172, s_150_173, s_150_175, s_150_176, s_150_177, s_150_178, r_150_178, s_150_181, s_150_182, s_150_183, r_150_183, s_150_186, s_150_187, s_150_190, s_150_193, s_150_194, s_150_197, s_150_198, s_150_199, s_150_200, s_150_201, s_150_202, s_150_203, jI_mul, jI_add, jI_tnc, jI_ixT, true_and, and_true, bZ_0, bZ_1, bZ_b, jI_nz, jI_div, jI_rem, jI_mod, Nat.add_zero, bI_if, not_false_iff, if_true, if_false, eq_self, MG_g, h0, jI_lt]
  by_cases hw : h % 24 ≤ 5
  · rw [if_neg (by omega)]
    simp only [if_pos hw, bI] at H
    refine lup0 nd (fun i x => x = (21, [.ref 368, .int (jI 1), .int (jI i), .null], [], 0, 0, MM Ln (MG σ g) lo db)) rfl ?_ ?_
    · rintro i x hi rfl hn
      have hn := hn _ rfl
      rw [s_150_21]
      simp (disch := omega) only [s_150_0, s_150_1, s_150_4, s_150_5, s_150_6, s_150_8, s_150_9, s_150_10, s_150_13, s_150_14, s_150_17, s_150_18, s_150_19, s_150_20, s_150_22, s_150_23, s_150_26, s_150_27, s_150_28, s_150_31, s_150_32, s_150_35, s_150_36, s_150_37, s_150_38, s_150_40, s_150_41, s_150_42, s_150_43, r_150_43, s_150_46, s_150_47, s_150_48, s_150_49, r_150_49, s_150_52, s_150_53, r_150_53, s_150_56, r_150_56, s_150_59, s_150_62, s_150_66, s_150_69, s_150_71, s_150_72, s_150_73, s_150_74, s_150_77, s_150_78, s_150_79, s_150_80, s_150_81, s_150_82, s_150_83, s_150_86, s_150_87, s_150_88, r_150_88, s_150_91, s_150_92, s_150_93, s_150_96, s_150_97, s_150_98, r_150_98, s_150_101, s_150_102, s_150_103, s_150_106, s_150_108, s_150_109, s_150_110, s_150_111, s_150_112, s_150_113, s_150_114, s_150_117, s_150_118, s_150_119, s_150_122, s_150_123, s_150_125, s_150_128, s_150_129, r_150_129, s_150_132, s_150_133, s_150_134, s_150_135, s_150_136, s_150_139, s_150_140, s_150_141, s_150_144, s_150_145, s_150_148, s_150_149, s_150_150, s_150_153, s_150_154, s_150_157, s_150_160, s_150_161, s_150_164, s_150_166, s_150_168, s_150_169, s_150_170, s_150_171, s_150_172, s_150_173, s_150_175, s_150_176, s_150_177, s_150_178, r_150_178, s_150_181, s_150_182, s_150_183, r_150_183, s_150_186, s_150_187, s_150_190, s_150_193, s_150_194, s_150_197, s_150_198, s_150_199, s_150_200, s_150_201, s_150_202, s_150_203, jI_mul, jI_add, jI_tnc, jI_ixT, true_and, and_true, bZ_0, bZ_1, bZ_b, jI_nz, jI_div, jI_rem, jI_mod, Nat.add_zero, bI_if, not_false_iff, if_true, if_false, eq_self, MG_g, h4, jI_le]
      rw [if_neg (by omega)]
      exact hn
    · rintro x rfl
      rw [s_150_21]
      simp (disch := omega) only [s_150_0, s_150_1, s_150_4, s_150_5, s_150_6, s_150_8, s_150_9, s_150_10, s_150_13, s_150_14, s_150_17, s_150_18, s_150_19, s_150_20, s_150_22, s_150_23, s_150_26, s_150_27, s_150_28, s_150_31, s_150_32, s_150_35, s_150_36, s_150_37, s_150_38, s_150_40, s_150_41, s_150_42, s_150_43, r_150_43, s_150_46, s_150_47, s_150_48, s_150_49, r_150_49, s_150_52, s_150_53, r_150_53, s_150_56, r_150_56, s_150_59, s_150_62, s_150_66, s_150_69, s_150_71, s_150_72, s_150_73, s_150_74, s_150_77, s_150_78, s_150_79, s_150_80, s_150_81, s_150_82, s_150_83, s_150_86, s_150_87, s_150_88, r_150_88, s_150_91, s_150_92, s_150_93, s_150_96, s_150_97, s_150_98, r_150_98, s_150_101, s_150_102, s_150_103, s_150_106, s_150_108, s_150_109, s_150_110, s_150_111, s_150_112, s_150_113, s_150_114, s_150_117, s_150_118, s_150_119, s_150_122, s_150_123, s_150_125, s_150_128, s_150_129, r_150_129, s_150_132, s_150_133, s_150_134, s_150_135, s_150_136, s_150_139, s_150_140, s_150_141, s_150_144, s_150_145, s_150_148, s_150_149, s_150_150, s_150_153, s_150_154, s_150_157, s_150_160, s_150_161, s_150_164, s_150_166, s_150_168, s_150_169, s_150_170, s_150_171, s_150_172, s_150_173, s_150_175, s_150_176, s_150_177, s_150_178, r_150_178, s_150_181, s_150_182, s_150_183, r_150_183, s_150_186, s_150_187, s_150_190, s_150_193, s_150_194, s_150_197, s_150_198, s_150_199, s_150_200, s_150_201, s_150_202, s_150_203, jI_mul, jI_add, jI_tnc, jI_ixT, true_and, and_true, bZ_0, bZ_1, bZ_b, jI_nz, jI_div, jI_rem, jI_mod, Nat.add_zero, bI_if, not_false_iff, if_true, if_false, eq_self, MG_g, h4, jI_le, Nat.le_refl]
      exact H
  · rw [if_pos (by omega)]
    simp only [if_neg hw, bI] at H
    refine lup0 nd (fun i x => x = (21, [.ref 368, .int (jI 0), .int (jI i), .null], [], 0, 0, MM Ln (MG σ (thrS g i)) lo db)) rfl ?_ ?_
    · rintro i x hi rfl hn
      have hn := hn _ rfl
      have e4 := (thrS_fx (g := g) (n := i) (k := 4) (by omega) (by omega)).trans h4
      have en : thrS g (i + 1) = gu (thrS g i) (75 + 9 * i + 4) (mn (jI 99) (thrS g i (75 + 9 * i + 4) + thrS g i (75 + 9 * i + 1))) := rfl
      rw [en] at hn
      generalize thrS g i = z at *
      rw [s_150_21]
      simp (disch := omega) only [s_150_0, s_150_1, s_150_4, s_150_5, s_150_6, s_150_8, s_150_9, s_150_10, s_150_13, s_150_14, s_150_17, s_150_18, s_150_19, s_150_20, s_150_22, s_150_23, s_150_26, s_150_27, s_150_28, s_150_31, s_150_32, s_150_35, s_150_36, s_150_37, s_150_38, s_150_40, s_150_41, s_150_42, s_150_43, r_150_43, s_150_46, s_150_47, s_150_48, s_150_49, r_150_49, s_150_52, s_150_53, r_150_53, s_150_56, r_150_56, s_150_59, s_150_62, s_150_66, s_150_69, s_150_71, s_150_72, s_150_73, s_150_74, s_150_77, s_150_78, s_150_79, s_150_80, s_150_81, s_150_82, s_150_83, s_150_86, s_150_87, s_150_88, r_150_88, s_150_91, s_150_92, s_150_93, s_150_96, s_150_97, s_150_98, r_150_98, s_150_101, s_150_102, s_150_103, s_150_106, s_150_108, s_150_109, s_150_110, s_150_111, s_150_112, s_150_113, s_150_114, s_150_117, s_150_118, s_150_119, s_150_122, s_150_123, s_150_125, s_150_128, s_150_129, r_150_129, s_150_132, s_150_133, s_150_134, s_150_135, s_150_136, s_150_139, s_150_140, s_150_141, s_150_144, s_150_145, s_150_148, s_150_149, s_150_150, s_150_153, s_150_154, s_150_157, s_150_160, s_150_161, s_150_164, s_150_166, s_150_168, s_150_169, s_150_170, s_150_171, s_150_172, s_150_173, s_150_175, s_150_176, s_150_177, s_150_178, r_150_178, s_150_181, s_150_182, s_150_183, r_150_183, s_150_186, s_150_187, s_150_190, s_150_193, s_150_194, s_150_197, s_150_198, s_150_199, s_150_200, s_150_201, s_150_202, s_150_203, jI_mul, jI_add, jI_tnc, jI_ixT, true_and, and_true, bZ_0, bZ_1, bZ_b, jI_nz, jI_div, jI_rem, jI_mod, Nat.add_zero, bI_if, not_false_iff, if_true, if_false, eq_self, MG_g, e4, jI_le, m_ofN, m_less, m_lays]
      rw [if_neg (by omega)]
      exact hn
    · rintro x rfl
      have e4 := (thrS_fx (g := g) (n := nd) (k := 4) (by omega) (by omega)).trans h4
      rw [s_150_21]
      simp (disch := omega) only [s_150_0, s_150_1, s_150_4, s_150_5, s_150_6, s_150_8, s_150_9, s_150_10, s_150_13, s_150_14, s_150_17, s_150_18, s_150_19, s_150_20, s_150_22, s_150_23, s_150_26, s_150_27, s_150_28, s_150_31, s_150_32, s_150_35, s_150_36, s_150_37, s_150_38, s_150_40, s_150_41, s_150_42, s_150_43, r_150_43, s_150_46, s_150_47, s_150_48, s_150_49, r_150_49, s_150_52, s_150_53, r_150_53, s_150_56, r_150_56, s_150_59, s_150_62, s_150_66, s_150_69, s_150_71, s_150_72, s_150_73, s_150_74, s_150_77, s_150_78, s_150_79, s_150_80, s_150_81, s_150_82, s_150_83, s_150_86, s_150_87, s_150_88, r_150_88, s_150_91, s_150_92, s_150_93, s_150_96, s_150_97, s_150_98, r_150_98, s_150_101, s_150_102, s_150_103, s_150_106, s_150_108, s_150_109, s_150_110, s_150_111, s_150_112, s_150_113, s_150_114, s_150_117, s_150_118, s_150_119, s_150_122, s_150_123, s_150_125, s_150_128, s_150_129, r_150_129, s_150_132, s_150_133, s_150_134, s_150_135, s_150_136, s_150_139, s_150_140, s_150_141, s_150_144, s_150_145, s_150_148, s_150_149, s_150_150, s_150_153, s_150_154, s_150_157, s_150_160, s_150_161, s_150_164, s_150_166, s_150_168, s_150_169, s_150_170, s_150_171, s_150_172, s_150_173, s_150_175, s_150_176, s_150_177, s_150_178, r_150_178, s_150_181, s_150_182, s_150_183, r_150_183, s_150_186, s_150_187, s_150_190, s_150_193, s_150_194, s_150_197, s_150_198, s_150_199, s_150_200, s_150_201, s_150_202, s_150_203, jI_mul, jI_add, jI_tnc, jI_ixT, true_and, and_true, bZ_0, bZ_1, bZ_b, jI_nz, jI_div, jI_rem, jI_mod, Nat.add_zero, bI_if, not_false_iff, if_true, if_false, eq_self, MG_g, e4, jI_le, Nat.le_refl]
      exact H
theorem m_goesBy {oh : Nat → Nat → Bool} {ng nd nc h : Nat} (hng : ng ≤ 6) (hnd : nd ≤ 12) (hnc : nc ≤ 8) (h0 : g 0 = jI h) (h3 : g 3 = jI ng) (h4 : g 4 = jI nd) (h5 : g 5 = jI nc) (hh : h < 2147483648) (hO : OHm g oh)
    (hC : ∀ i, i < nc → ∃ a b, a < 12 ∧ b < 12 ∧ g (183 + 2 * i) = jI a ∧ g (184 + 2 * i) = jI b)
    (H : ∀ σ', FR σ σ' → K (.inl none) (MM Ln (MG σ' (hourS oh ng nd nc h g)) lo db)) : Ev 150 (0, [.ref 368, .null, .null, .null], [], 0, 0, MM Ln (MG σ g) lo db) K := by
  refine m_gb1 hnd h4 h0 hh ?_
  have hf1 : ∀ k, (k < 75 ∨ 183 ≤ k) → (if h % 24 ≤ 5 then g else thrS g nd) k = g k := by
    intro k hk
    split
    · rfl
    · exact thrS_fx hk hnd
  unfold hourS at H
  simp only at H
  generalize (if h % 24 ≤ 5 then g else thrS g nd) = g1 at *
  have hO1 : ∀ v, OHm (gu g1 7 v) oh := fun v => hO.of (fun k p hk hp => by rw [gu_ne (by omega)]; exact hf1 _ (by omega))
  have e0 := (hf1 0 (by omega)).trans h0
  have e3 := (hf1 3 (by omega)).trans h3
  have e4 := (hf1 4 (by omega)).trans h4
  have e5 := (hf1 5 (by omega)).trans h5
  have eC : ∀ i, i < nc → ∃ a b, a < 12 ∧ b < 12 ∧ g1 (183 + 2 * i) = jI a ∧ g1 (184 + 2 * i) = jI b := fun i hi => by
    rw [hf1 _ (by omega), hf1 _ (by omega)]; exact hC i hi
  simp (disch := omega) only [s_150_1, s_150_4, s_150_5, s_150_6, s_150_8, s_150_9, s_150_10, s_150_13, s_150_14, s_150_17, s_150_18, s_150_19, s_150_20, s_150_22, s_150_23, s_150_26, s_150_27, s_150_28, s_150_31, s_150_32, s_150_35, s_150_36, s_150_37, s_150_38, s_150_40, s_150_41, s_150_42, s_150_43, r_150_43, s_150_46, s_150_47, s_150_48, s_150_49, r_150_49, s_150_52, s_150_53, r_150_53, s_150_56, r_150_56, s_150_59, s_150_62, s_150_65, s_150_66, s_150_69, s_150_71, s_150_72, s_150_73, s_150_74, s_150_77, s_150_78, s_150_79, s_150_80, s_150_81, s_150_82, s_150_83, s_150_86, s_150_87, s_150_88, r_150_88, s_150_91, s_150_92, s_150_93, s_150_96, s_150_97, s_150_98, r_150_98, s_150_101, s_150_102, s_150_103, s_150_106, s_150_108, s_150_109, s_150_110, s_150_111, s_150_112, s_150_113, s_150_114, s_150_117, s_150_118, s_150_119, s_150_122, s_150_123, s_150_125, s_150_128, s_150_129, r_150_129, s_150_133, s_150_134, s_150_135, s_150_136, s_150_139, s_150_140, s_150_141, s_150_144, s_150_145, s_150_148, s_150_149, s_150_150, s_150_153, s_150_154, s_150_157, s_150_160, s_150_161, s_150_164, s_150_166, s_150_168, s_150_169, s_150_170, s_150_171, s_150_172, s_150_173, s_150_175, s_150_176, s_150_177, s_150_178, r_150_178, s_150_181, s_150_182, s_150_183, r_150_183, s_150_186, s_150_187, s_150_190, s_150_193, s_150_194, s_150_197, s_150_198, s_150_199, s_150_200, s_150_201, s_150_202, s_150_203, jI_mul, jI_add, jI_tnc, jI_ixT, true_and, and_true, bZ_0, bZ_1, bZ_b, jI_nz, jI_div, jI_rem, jI_mod, Nat.add_zero, bI_if, not_false_iff, if_true, if_false, eq_self, MG_g, MG_u]
  refine m_down hng hnd (by rw [gu_ne (by omega)]; exact e3) (by rw [gu_ne (by omega)]; exact e4) (by rw [gu_ne (by omega)]; exact e0) hh (hO1 _) ?_
  intro σ' f1
  have hz : ∀ k, Fx k → k ≠ 7 → (itN ng (dwnStep oh (h % 168) nd) (gu g1 7 (g1 7 + g1 1), gu g1 7 (g1 7 + g1 1) 1)).1 k = g1 k := fun k hk h7 => (dwn_fx hk).trans (gu_ne h7)
  have hy : ∀ k, 183 ≤ k → (itN ng (dwnStep oh (h % 168) nd) (gu g1 7 (g1 7 + g1 1), gu g1 7 (g1 7 + g1 1) 1)).1 k = g1 k := fun k hk => (dwn_hi hk hnd hng).trans (gu_ne (by omega))
  have z0 := (hz 0 (Or.inl (by omega)) (by omega)).trans e0
  have z3 := (hz 3 (Or.inl (by omega)) (by omega)).trans e3
  have z4 := (hz 4 (Or.inl (by omega)) (by omega)).trans e4
  have z5 := (hz 5 (Or.inl (by omega)) (by omega)).trans e5
  have zC : ∀ i, i < nc → ∃ a b, a < 12 ∧ b < 12 ∧ (itN ng (dwnStep oh (h % 168) nd) (gu g1 7 (g1 7 + g1 1), gu g1 7 (g1 7 + g1 1) 1)).1 (183 + 2 * i) = jI a ∧ (itN ng (dwnStep oh (h % 168) nd) (gu g1 7 (g1 7 + g1 1), gu g1 7 (g1 7 + g1 1) 1)).1 (184 + 2 * i) = jI b := fun i hi => by
    rw [hy _ (by omega), hy _ (by omega)]; exact eC i hi
  have H := H σ' f1
  generalize itN ng (dwnStep oh (h % 168) nd) (gu g1 7 (g1 7 + g1 1), gu g1 7 (g1 7 + g1 1) 1) = z at *
  -- behind the thieves
  have fin : ∀ (y : Gr × Int32) (v1 : Int32), y.1 0 = jI h → y.1 3 = jI ng → y.1 5 = jI nc → (∀ i, i < nc → ∃ a b, a < 12 ∧ b < 12 ∧ y.1 (183 + 2 * i) = jI a ∧ y.1 (184 + 2 * i) = jI b) →
      K (.inl none) (MM Ln (MG σ' (gu (if h % 168 = 167 then lkS (if h % 168 = 84 then hrAll (gu y.1 11 (y.1 11 + y.2)) nc else gu y.1 11 (y.1 11 + y.2)) ng else (if h % 168 = 84 then hrAll (gu y.1 11 (y.1 11 + y.2)) nc else gu y.1 11 (y.1 11 + y.2))) 0 ((if h % 168 = 167 then lkS (if h % 168 = 84 then hrAll (gu y.1 11 (y.1 11 + y.2)) nc else gu y.1 11 (y.1 11 + y.2)) ng else (if h % 168 = 84 then hrAll (gu y.1 11 (y.1 11 + y.2)) nc else gu y.1 11 (y.1 11 + y.2))) 0 + jI 1))) lo db) →
      Ev 150 (102, [.ref 368, .int v1, .int y.2, .null], [], 0, 0, MM Ln (MG σ' y.1) lo db) K := by
    intro y v1 y0 y3 y5 yC HH
    simp (disch := omega) only [s_150_1, s_150_4, s_150_5, s_150_6, s_150_8, s_150_9, s_150_10, s_150_13, s_150_14, s_150_17, s_150_18, s_150_19, s_150_20, s_150_22, s_150_23, s_150_26, s_150_27, s_150_28, s_150_31, s_150_32, s_150_35, s_150_36, s_150_37, s_150_38, s_150_40, s_150_41, s_150_42, s_150_43, r_150_43, s_150_46, s_150_47, s_150_48, s_150_49, r_150_49, s_150_52, s_150_53, r_150_53, s_150_56, r_150_56, s_150_59, s_150_62, s_150_66, s_150_69, s_150_71, s_150_72, s_150_73, s_150_74, s_150_77, s_150_78, s_150_79, s_150_80, s_150_81, s_150_82, s_150_83, s_150_86, s_150_87, s_150_88, r_150_88, s_150_91, s_150_92, s_150_93, s_150_96, s_150_97, s_150_98, r_150_98, s_150_101, s_150_102, s_150_103, s_150_106, s_150_108, s_150_109, s_150_110, s_150_111, s_150_112, s_150_113, s_150_114, s_150_117, s_150_118, s_150_119, s_150_122, s_150_123, s_150_125, s_150_128, s_150_129, r_150_129, s_150_133, s_150_134, s_150_135, s_150_136, s_150_139, s_150_140, s_150_141, s_150_144, s_150_145, s_150_148, s_150_149, s_150_150, s_150_153, s_150_154, s_150_157, s_150_160, s_150_161, s_150_164, s_150_166, s_150_168, s_150_169, s_150_170, s_150_171, s_150_172, s_150_173, s_150_175, s_150_176, s_150_177, s_150_178, r_150_178, s_150_181, s_150_182, s_150_183, r_150_183, s_150_186, s_150_187, s_150_190, s_150_193, s_150_194, s_150_197, s_150_198, s_150_199, s_150_200, s_150_201, s_150_202, s_150_203, jI_mul, jI_add, jI_tnc, jI_ixT, true_and, and_true, bZ_0, bZ_1, bZ_b, jI_nz, jI_div, jI_rem, jI_mod, Nat.add_zero, bI_if, not_false_iff, if_true, if_false, eq_self, MG_g, MG_u, gu_ne, y0]
    by_cases hw : h % 168 = 84
    · rw [hw, if_pos rfl]
      simp only [if_pos hw] at HH
      have aC : ∀ i, i < nc → ∃ a b, a < 12 ∧ b < 12 ∧ gu y.1 11 (y.1 11 + y.2) (183 + 2 * i) = jI a ∧ gu y.1 11 (y.1 11 + y.2) (184 + 2 * i) = jI b := fun i hi => by
        rw [gu_ne (by omega), gu_ne (by omega)]; exact yC i hi
      refine m_hearsAll (ng := ng) hnd hnc (by rw [gu_ne (by omega)]; exact y5) aC ?_
      rw [r_150_129]
      refine m_gb3 hng ?_ ?_ hh HH
      · rw [hrAll_lo aC (by omega), gu_ne (by omega)]; exact y3
      · rw [hrAll_lo aC (by omega), gu_ne (by omega)]; exact y0
    · rw [if_neg (fun e => hw ((jI_inj (by omega) (by omega)).mp e))]
      simp only [if_neg hw] at HH
      refine m_gb3 hng ?_ ?_ hh HH
      · rw [gu_ne (by omega)]; exact y3
      · rw [gu_ne (by omega)]; exact y0
  simp (disch := omega) only [s_150_1, s_150_4, s_150_5, s_150_6, s_150_8, s_150_9, s_150_10, s_150_13, s_150_14, s_150_17, s_150_18, s_150_19, s_150_20, s_150_22, s_150_23, s_150_26, s_150_27, s_150_28, s_150_31, s_150_32, s_150_35, s_150_36, s_150_37, s_150_38, s_150_40, s_150_41, s_150_42, s_150_43, r_150_43, s_150_46, s_150_47, s_150_48, s_150_49, r_150_49, s_150_52, s_150_53, r_150_53, s_150_56, r_150_56, s_150_59, s_150_62, s_150_66, s_150_69, s_150_71, s_150_72, s_150_73, s_150_74, s_150_77, s_150_78, s_150_79, s_150_80, s_150_81, s_150_82, s_150_83, s_150_86, s_150_87, s_150_88, r_150_88, s_150_91, s_150_92, s_150_93, s_150_96, s_150_97, s_150_98, r_150_98, s_150_101, s_150_103, s_150_106, s_150_108, s_150_109, s_150_110, s_150_111, s_150_112, s_150_113, s_150_114, s_150_117, s_150_118, s_150_119, s_150_122, s_150_123, s_150_125, s_150_128, s_150_129, r_150_129, s_150_133, s_150_134, s_150_135, s_150_136, s_150_139, s_150_140, s_150_141, s_150_144, s_150_145, s_150_148, s_150_149, s_150_150, s_150_153, s_150_154, s_150_157, s_150_160, s_150_161, s_150_164, s_150_166, s_150_168, s_150_169, s_150_170, s_150_171, s_150_172, s_150_173, s_150_175, s_150_176, s_150_177, s_150_178, r_150_178, s_150_181, s_150_182, s_150_183, r_150_183, s_150_186, s_150_187, s_150_190, s_150_193, s_150_194, s_150_197, s_150_198, s_150_199, s_150_200, s_150_201, s_150_202, s_150_203, jI_mul, jI_add, jI_tnc, jI_ixT, true_and, and_true, bZ_0, bZ_1, bZ_b, jI_nz, jI_div, jI_rem, jI_mod, Nat.add_zero, bI_if, not_false_iff, if_true, if_false, eq_self]
  by_cases hw : h % 24 ≤ 5
  · simp only [if_pos hw] at H ⊢
    refine m_thieves hnd z4 rfl ?_
    simp (disch := omega) only [s_150_1, s_150_4, s_150_5, s_150_6, s_150_8, s_150_9, s_150_10, s_150_13, s_150_14, s_150_17, s_150_18, s_150_19, s_150_20, s_150_22, s_150_23, s_150_26, s_150_27, s_150_28, s_150_31, s_150_32, s_150_35, s_150_36, s_150_37, s_150_38, s_150_40, s_150_41, s_150_42, s_150_43, r_150_43, s_150_46, s_150_47, s_150_48, s_150_49, r_150_49, s_150_52, s_150_53, r_150_53, s_150_56, r_150_56, s_150_59, s_150_62, s_150_66, s_150_69, s_150_71, s_150_72, s_150_73, s_150_74, s_150_77, s_150_78, s_150_79, s_150_80, s_150_81, s_150_82, s_150_83, s_150_86, s_150_87, s_150_88, r_150_88, s_150_91, s_150_92, s_150_93, s_150_96, s_150_97, s_150_98, r_150_98, s_150_101, s_150_103, s_150_106, s_150_108, s_150_109, s_150_110, s_150_111, s_150_112, s_150_113, s_150_114, s_150_117, s_150_118, s_150_119, s_150_122, s_150_123, s_150_125, s_150_128, s_150_129, r_150_129, s_150_133, s_150_134, s_150_135, s_150_136, s_150_139, s_150_140, s_150_141, s_150_144, s_150_145, s_150_148, s_150_149, s_150_150, s_150_153, s_150_154, s_150_157, s_150_160, s_150_161, s_150_164, s_150_166, s_150_168, s_150_169, s_150_170, s_150_171, s_150_172, s_150_173, s_150_175, s_150_176, s_150_177, s_150_178, r_150_178, s_150_181, s_150_182, s_150_183, r_150_183, s_150_186, s_150_187, s_150_190, s_150_193, s_150_194, s_150_197, s_150_198, s_150_199, s_150_200, s_150_201, s_150_202, s_150_203, jI_mul, jI_add, jI_tnc, jI_ixT, true_and, and_true, bZ_0, bZ_1, bZ_b, jI_nz, jI_div, jI_rem, jI_mod, Nat.add_zero, bI_if, not_false_iff, if_true, if_false, eq_self]
    refine fin _ _ ?_ ?_ ?_ ?_ H
    · exact (thvN_fx (by omega) (by omega)).trans z0
    · exact (thvN_fx (by omega) (by omega)).trans z3
    · exact (thvN_fx (by omega) (by omega)).trans z5
    · intro i hi
      rw [thvN_hi (by omega) hnd, thvN_hi (by omega) hnd]; exact zC i hi
  · simp only [if_neg hw] at H ⊢
    exact fin _ _ z0 z3 z5 zC H
end
