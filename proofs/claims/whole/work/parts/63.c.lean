/-! THE CLASS: an hour, whole -/
set_option maxRecDepth 16384
section
variable {K : Ou → Me → Prop} {Ln : Nat} {σ : Nat → Nat → Int32} {g : Gr} {lo : Nat → Nat → Int64} {db : Nat → Nat → UInt64} {μ : Me} {oh : Nat → Nat → Bool} {o ng nd nc h : Nat}
theorem c_growT (ho : DI o) (hng : ng ≤ 6) (hnd : nd ≤ 12) (h4 : g 4 = jI nd) (H : K (.inl none) (MM Ln (LD σ o (thrS g nd) ng nd nc) lo db)) : Ev 12 (0, [.ref o, .null, .null], [], 0, 0, MM Ln (LD σ o g ng nd nc) lo db) K := by
  simp (disch := first | assumption | omega) only [s_12_0, s_12_1, s_12_3, s_12_4, s_12_7, s_12_10, s_12_11, s_12_14, s_12_15, s_12_16, s_12_17, s_12_18, s_12_19, s_12_22, s_12_23, s_12_26, s_12_27, s_12_29, r_12_29, s_12_32, s_12_35, s_12_38, s_12_41, jI_mul, jI_add, jI_tnc, jI_ixT, true_and, and_true, bZ_0, bZ_1, bZ_b, jI_nz, jI_div, jI_rem, jI_mod, Nat.add_zero, bI_if, not_false_iff, if_true, if_false, eq_self]
  refine lup0 nd (fun i x => ∃ s, x = (2, [.ref o, .int (jI i), s], [], 0, 0, MM Ln (LD σ o (thrS g i) ng nd nc) lo db)) ⟨_, rfl⟩ ?_ ?_
  · rintro i x hi ⟨s, rfl⟩ hn
    have e4 := (thrS_fx (g := g) (n := i) (k := 4) (by omega) (by omega)).trans h4
    have en : thrS g (i + 1) = gu (thrS g i) (75 + 9 * i + 4) (mn (jI 99) (thrS g i (75 + 9 * i + 4) + thrS g i (75 + 9 * i + 1))) := rfl
    rw [en] at hn
    generalize thrS g i = z at *
    rw [mn_comm] at hn
    rw [s_12_2]
    simp (disch := first | assumption | omega) only [s_12_0, s_12_1, s_12_3, s_12_4, s_12_7, s_12_10, s_12_11, s_12_14, s_12_15, s_12_16, s_12_17, s_12_18, s_12_19, s_12_22, s_12_23, s_12_26, s_12_27, s_12_29, r_12_29, s_12_32, s_12_35, s_12_38, s_12_41, jI_mul, jI_add, jI_tnc, jI_ixT, true_and, and_true, bZ_0, bZ_1, bZ_b, jI_nz, jI_div, jI_rem, jI_mod, Nat.add_zero, bI_if, not_false_iff, if_true, if_false, eq_self, LD_s6, LD_s7, LD_s8, LD_s9, LD_s10, LD_s11, LD_s12, LD_b0, LD_b1, LD_b2, LD_b3, LD_b4, LD_b5, LD_b6, LD_b7, LD_g1, LD_g2, LD_g3, LD_g4, LD_n0, LD_n1, LD_n2, LD_n3, LD_n4, LD_n5, LD_n6, LD_n7, LD_n8, LD_cp, LD_ac, LD_or, LD_oh, LD_us6, LD_us7, LD_us8, LD_us9, LD_us10, LD_us11, LD_us12, LD_ub0, LD_ub1, LD_ub2, LD_ub3, LD_ub4, LD_ub5, LD_ub6, LD_ub7, LD_ug1, LD_ug2, LD_ug3, LD_ug4, LD_un0, LD_un1, LD_un2, LD_un3, LD_un4, LD_un5, LD_un6, LD_un7, LD_un8, LD_uor, LD_uoh, e4, jI_le, m_min]
    rw [if_neg (by omega)]
    exact hn _ ⟨_, rfl⟩
  · rintro x ⟨s, rfl⟩
    have e4 := (thrS_fx (g := g) (n := nd) (k := 4) (by omega) (by omega)).trans h4
    rw [s_12_2]
    simp (disch := first | assumption | omega) only [s_12_0, s_12_1, s_12_3, s_12_4, s_12_7, s_12_10, s_12_11, s_12_14, s_12_15, s_12_16, s_12_17, s_12_18, s_12_19, s_12_22, s_12_23, s_12_26, s_12_27, s_12_29, r_12_29, s_12_32, s_12_35, s_12_38, s_12_41, jI_mul, jI_add, jI_tnc, jI_ixT, true_and, and_true, bZ_0, bZ_1, bZ_b, jI_nz, jI_div, jI_rem, jI_mod, Nat.add_zero, bI_if, not_false_iff, if_true, if_false, eq_self, LD_s6, LD_s7, LD_s8, LD_s9, LD_s10, LD_s11, LD_s12, LD_b0, LD_b1, LD_b2, LD_b3, LD_b4, LD_b5, LD_b6, LD_b7, LD_g1, LD_g2, LD_g3, LD_g4, LD_n0, LD_n1, LD_n2, LD_n3, LD_n4, LD_n5, LD_n6, LD_n7, LD_n8, LD_cp, LD_ac, LD_or, LD_oh, e4, jI_le, Nat.le_refl]
    exact H
theorem c_growL (ho : DI o) (hng : ng ≤ 6) (hnd : nd ≤ 12) (h3 : g 3 = jI ng) (H : K (.inl none) (MM Ln (LD σ o (lkS g ng) ng nd nc) lo db)) : Ev 13 (0, [.ref o, .null], [], 0, 0, MM Ln (LD σ o g ng nd nc) lo db) K := by
  simp (disch := first | assumption | omega) only [s_13_0, s_13_1, s_13_3, s_13_4, s_13_7, s_13_10, s_13_11, s_13_14, s_13_15, s_13_16, s_13_17, s_13_20, s_13_21, s_13_22, s_13_25, s_13_26, s_13_27, s_13_29, r_13_29, s_13_32, s_13_35, s_13_38, s_13_41, jI_mul, jI_add, jI_tnc, jI_ixT, true_and, and_true, bZ_0, bZ_1, bZ_b, jI_nz, jI_div, jI_rem, jI_mod, Nat.add_zero, bI_if, not_false_iff, if_true, if_false, eq_self]
  refine lup0 ng (fun i x => x = (2, [.ref o, .int (jI i)], [], 0, 0, MM Ln (LD σ o (lkS g i) ng nd nc) lo db)) rfl ?_ ?_
  · rintro i x hi rfl hn
    have hn := hn _ rfl
    have e3 := (lkS_fx (g := g) (n := i) (k := 3) (by omega)).trans h3
    have en : lkS g (i + 1) = gu (lkS g i) (15 + 10 * i + 1) (mn (jI 50) (lkS g i (15 + 10 * i + 1) + jI 1)) := rfl
    rw [en] at hn
    generalize lkS g i = z at *
    rw [mn_comm] at hn
    rw [s_13_2]
    simp (disch := first | assumption | omega) only [s_13_0, s_13_1, s_13_3, s_13_4, s_13_7, s_13_10, s_13_11, s_13_14, s_13_15, s_13_16, s_13_17, s_13_20, s_13_21, s_13_22, s_13_25, s_13_26, s_13_27, s_13_29, r_13_29, s_13_32, s_13_35, s_13_38, s_13_41, jI_mul, jI_add, jI_tnc, jI_ixT, true_and, and_true, bZ_0, bZ_1, bZ_b, jI_nz, jI_div, jI_rem, jI_mod, Nat.add_zero, bI_if, not_false_iff, if_true, if_false, eq_self, LD_s6, LD_s7, LD_s8, LD_s9, LD_s10, LD_s11, LD_s12, LD_b0, LD_b1, LD_b2, LD_b3, LD_b4, LD_b5, LD_b6, LD_b7, LD_g1, LD_g2, LD_g3, LD_g4, LD_n0, LD_n1, LD_n2, LD_n3, LD_n4, LD_n5, LD_n6, LD_n7, LD_n8, LD_cp, LD_ac, LD_or, LD_oh, LD_us6, LD_us7, LD_us8, LD_us9, LD_us10, LD_us11, LD_us12, LD_ub0, LD_ub1, LD_ub2, LD_ub3, LD_ub4, LD_ub5, LD_ub6, LD_ub7, LD_ug1, LD_ug2, LD_ug3, LD_ug4, LD_un0, LD_un1, LD_un2, LD_un3, LD_un4, LD_un5, LD_un6, LD_un7, LD_un8, LD_uor, LD_uoh, e3, jI_le, m_min]
    rw [if_neg (by omega)]
    exact hn
  · rintro x rfl
    have e3 := (lkS_fx (g := g) (n := ng) (k := 3) (by omega)).trans h3
    rw [s_13_2]
    simp (disch := first | assumption | omega) only [s_13_0, s_13_1, s_13_3, s_13_4, s_13_7, s_13_10, s_13_11, s_13_14, s_13_15, s_13_16, s_13_17, s_13_20, s_13_21, s_13_22, s_13_25, s_13_26, s_13_27, s_13_29, r_13_29, s_13_32, s_13_35, s_13_38, s_13_41, jI_mul, jI_add, jI_tnc, jI_ixT, true_and, and_true, bZ_0, bZ_1, bZ_b, jI_nz, jI_div, jI_rem, jI_mod, Nat.add_zero, bI_if, not_false_iff, if_true, if_false, eq_self, LD_s6, LD_s7, LD_s8, LD_s9, LD_s10, LD_s11, LD_s12, LD_b0, LD_b1, LD_b2, LD_b3, LD_b4, LD_b5, LD_b6, LD_b7, LD_g1, LD_g2, LD_g3, LD_g4, LD_n0, LD_n1, LD_n2, LD_n3, LD_n4, LD_n5, LD_n6, LD_n7, LD_n8, LD_cp, LD_ac, LD_or, LD_oh, e3, jI_le, Nat.le_refl]
    exact H
theorem c_stole {i : Nat} {v : Int32} (ho : DI o) (hng : ng ≤ 6) (hnd : nd ≤ 12) (hi : i < nd) (hl : g (75 + 9 * i + 8) = jm1 ∨ jI 0 ≤ g (75 + 9 * i + 8)) : Ev 46 (0, [.ref (nA o i), .int v], [], 0, 0, MM Ln (LD σ o g ng nd nc) lo db) K ↔ K (.inl (some (.int (bI (jI 0 ≤ g (75 + 9 * i + 8) ∧ v - jI 168 ≤ g (75 + 9 * i + 8)))))) (MM Ln (LD σ o g ng nd nc) lo db) := by
  simp (disch := first | assumption | omega) only [s_46_0, s_46_1, s_46_4, s_46_5, s_46_8, s_46_9, s_46_12, s_46_13, s_46_16, s_46_17, s_46_20, s_46_21, s_46_24, s_46_25, jI_mul, jI_add, jI_tnc, jI_ixT, true_and, and_true, bZ_0, bZ_1, bZ_b, jI_nz, jI_div, jI_rem, jI_mod, Nat.add_zero, bI_if, not_false_iff, if_true, if_false, eq_self, LD_s6, LD_s7, LD_s8, LD_s9, LD_s10, LD_s11, LD_s12, LD_b0, LD_b1, LD_b2, LD_b3, LD_b4, LD_b5, LD_b6, LD_b7, LD_g1, LD_g2, LD_g3, LD_g4, LD_n0, LD_n1, LD_n2, LD_n3, LD_n4, LD_n5, LD_n6, LD_n7, LD_n8, LD_cp, LD_ac, LD_or, LD_oh]
  unfold bI
  rcases hl with hl | hl
  · have q : ¬ (jI 0 ≤ jm1) := by decide
    rw [if_pos hl, hl, if_neg (fun e => q e.1)]
  · have q : ¬ g (75 + 9 * i + 8) = jm1 := fun e => by rw [e] at hl; exact absurd hl (by decide)
    rw [if_neg q]
    by_cases h2 : v - jI 168 ≤ g (75 + 9 * i + 8)
    · rw [if_neg (Int32.not_lt.mpr h2), if_pos ⟨hl, h2⟩]
    · rw [if_pos (Int32.not_le.mp h2), if_neg (fun e => h2 e.2)]
theorem c_hear {a b : Nat} (ho : DI o) (hng : ng ≤ 6) (hnd : nd ≤ 12) (ha : a < nd) (hb : b < nd) (hl : g (75 + 9 * b + 8) = jm1 ∨ jI 0 ≤ g (75 + 9 * b + 8)) : Ev 23 (0, [.ref o, .ref (nA o a), .ref (nA o b), .null, .null], [], 0, 0, MM Ln (LD σ o g ng nd nc) lo db) K ↔ K (.inl none) (MM Ln (LD σ o (hrS g a b) ng nd nc) lo db) := by
  have hl2 : gu g 12 (g 12 + jI 1) (75 + 9 * b + 8) = jm1 ∨ jI 0 ≤ gu g 12 (g 12 + jI 1) (75 + 9 * b + 8) := by rw [gu_ne (by omega)]; exact hl
  have hcs : ∀ {v : Int32} {K : Ou → Me → Prop}, Ev 46 (0, [.ref (nA o b), .int v], [], 0, 0, MM Ln (LD σ o (gu g 12 (g 12 + jI 1)) ng nd nc) lo db) K ↔ K (.inl (some (.int (bI (jI 0 ≤ gu g 12 (g 12 + jI 1) (75 + 9 * b + 8) ∧ v - jI 168 ≤ gu g 12 (g 12 + jI 1) (75 + 9 * b + 8)))))) (MM Ln (LD σ o (gu g 12 (g 12 + jI 1)) ng nd nc) lo db) := fun {v K} => c_stole ho hng hnd hb hl2
  simp (disch := first | assumption | omega) only [s_23_0, s_23_1, s_23_4, s_23_5, s_23_8, s_23_9, s_23_10, s_23_13, s_23_14, s_23_15, s_23_18, r_23_18, s_23_21, s_23_24, s_23_25, s_23_28, s_23_29, s_23_32, s_23_33, s_23_34, s_23_37, s_23_38, s_23_41, s_23_42, s_23_45, r_23_45, s_23_48, s_23_49, s_23_50, s_23_51, s_23_52, s_23_54, s_23_55, s_23_56, s_23_59, s_23_60, s_23_61, s_23_64, s_23_65, s_23_66, s_23_69, s_23_70, s_23_71, s_23_74, s_23_76, s_23_77, s_23_80, s_23_81, s_23_82, s_23_85, s_23_86, s_23_88, s_23_89, s_23_90, s_23_93, s_23_96, s_23_97, s_23_100, s_23_103, s_23_104, s_23_105, s_23_108, s_23_109, s_23_110, s_23_113, s_23_114, s_23_115, s_23_118, s_23_119, s_23_120, s_23_123, jI_mul, jI_add, jI_tnc, jI_ixT, true_and, and_true, bZ_0, bZ_1, bZ_b, jI_nz, jI_div, jI_rem, jI_mod, Nat.add_zero, bI_if, not_false_iff, if_true, if_false, eq_self, LD_s6, LD_s7, LD_s8, LD_s9, LD_s10, LD_s11, LD_s12, LD_b0, LD_b1, LD_b2, LD_b3, LD_b4, LD_b5, LD_b6, LD_b7, LD_g1, LD_g2, LD_g3, LD_g4, LD_n0, LD_n1, LD_n2, LD_n3, LD_n4, LD_n5, LD_n6, LD_n7, LD_n8, LD_cp, LD_ac, LD_or, LD_oh, LD_us6, LD_us7, LD_us8, LD_us9, LD_us10, LD_us11, LD_us12, LD_ub0, LD_ub1, LD_ub2, LD_ub3, LD_ub4, LD_ub5, LD_ub6, LD_ub7, LD_ug1, LD_ug2, LD_ug3, LD_ug4, LD_un0, LD_un1, LD_un2, LD_un3, LD_un4, LD_un5, LD_un6, LD_un7, LD_un8, LD_uor, LD_uoh, hcs, m_min]
  unfold hrS
  dsimp only
  by_cases h1 : jI 0 ≤ gu g 12 (g 12 + jI 1) (75 + 9 * b + 8) ∧ gu g 12 (g 12 + jI 1) 0 - jI 168 ≤ gu g 12 (g 12 + jI 1) (75 + 9 * b + 8)
  · rw [if_pos h1, if_pos h1]
    refine iff_of_eq (congrArg (fun z => K (.inl none) (MM Ln (LD σ o z ng nd nc) lo db)) ?_)
    by_cases hab : a = b
    · subst hab
      simp (disch := omega) only [gu_ne, gu_at]
      rw [gu_comm (a := 13) (b := 75 + 9 * a + 3) (by omega), gu_comm (a := 13) (b := 75 + 9 * a + 5) (by omega), gu_comm (a := 13) (b := 75 + 9 * a + 3) (by omega), gu_comm (a := 13) (b := 6) (by omega), gu_comm (a := 75 + 9 * a + 5) (b := 75 + 9 * a + 3) (by omega), gu_comm (a := 75 + 9 * a + 5) (b := 6) (by omega)]
    · simp (disch := omega) only [gu_ne, gu_at]
      rw [gu_comm (a := 13) (b := 75 + 9 * b + 3) (by omega), gu_comm (a := 13) (b := 75 + 9 * b + 5) (by omega), gu_comm (a := 13) (b := 75 + 9 * a + 3) (by omega), gu_comm (a := 13) (b := 6) (by omega), gu_comm (a := 75 + 9 * b + 5) (b := 75 + 9 * a + 3) (by omega), gu_comm (a := 75 + 9 * b + 5) (b := 6) (by omega)]
  · rw [if_neg h1, if_neg h1]
    by_cases h2 : jI 0 < gu g 12 (g 12 + jI 1) (75 + 9 * a + 3)
    · rw [if_pos h2, if_neg (Int32.not_le.mpr h2)]
    · rw [if_neg h2, if_pos (Int32.not_lt.mp h2)]
theorem hr_ty {a b : Nat} (hng : ng ≤ 6) (hnd : nd ≤ 12) (hQ : QI g ng nd nc) (ha : a < nd) (hb : b < nd) : QI (hrS g a b) ng nd nc := by
  unfold hrS
  dsimp only
  have Q1 : QI (gu g 12 (g 12 + jI 1)) ng nd nc := QI_o hQ (by omega)
  split
  · refine QI_o (QI_gu (QI_o (QI_o (QI_o Q1 (by omega)) (by omega)) (by omega)) ((QC_5 hng hb).mpr (Or.inl rfl))) (by omega)
  · split
    · exact QI_o (QI_o Q1 (by omega)) (by omega)
    · exact Q1
theorem cpl_of (hng : ng ≤ 6) (hnd : nd ≤ 12) (hQ : QI g ng nd nc) {i : Nat} (hi : i < nc) : ∃ a b, a < nd ∧ b < nd ∧ g (183 + 2 * i) = jI a ∧ g (184 + 2 * i) = jI b := by
  obtain ⟨a, ha, e1⟩ := (QC_c hng hnd (i := 183 + 2 * i) (by omega) (by omega)).mp (hQ (183 + 2 * i))
  obtain ⟨b, hb, e2⟩ := (QC_c hng hnd (i := 184 + 2 * i) (by omega) (by omega)).mp (hQ (184 + 2 * i))
  exact ⟨a, b, ha, hb, e1, e2⟩
theorem CPL_of (hng : ng ≤ 6) (hnd : nd ≤ 12) (hQ : QI g ng nd nc) : CPL g nc := fun i hi => by
  obtain ⟨a, b, h1, h2, h3, h4⟩ := cpl_of hng hnd hQ hi
  exact ⟨a, b, by omega, by omega, h3, h4⟩
theorem hrN_ty (hng : ng ≤ 6) (hnd : nd ≤ 12) (hQ : QI g ng nd nc) : ∀ i, i ≤ nc → QI (itN i (fun i g => hrS g (cA g i) (cB g i)) g) ng nd nc
  | 0, _ => hQ
  | i + 1, hi => by
    have ih := hrN_ty hng hnd hQ i (by omega)
    obtain ⟨a, b, ha, hb, ea, eb⟩ := cpl_of hng hnd ih (i := i) (by omega)
    have e1 := cA_of ea (by omega)
    have e2 := cB_of eb (by omega)
    rw [itN_succ, e1, e2]
    exact hr_ty hng hnd ih ha hb
theorem QI_less {nc' : Nat} (h : nc' ≤ nc) (hnd : nd ≤ 12) (hng : ng ≤ 6) (hQ : QI g ng nd nc) : QI g ng nd nc' := by
  intro c
  have := hQ c
  unfold QC at this ⊢
  split
  · next q => rw [if_pos q] at this; exact this
  · next q1 =>
    rw [if_neg q1] at this
    split
    · next q => rw [if_pos q] at this; exact this
    · next q2 =>
      rw [if_neg q2] at this
      split
      · next q => rw [if_pos q] at this; exact this
      · next q3 =>
        rw [if_neg q3] at this
        split
        · next q => rw [if_pos q] at this; exact this
        · next q4 =>
          rw [if_neg q4] at this
          split
          · next q => rw [if_pos q] at this; exact this
          · next q5 =>
            rw [if_neg q5] at this
            split
            · next q => rw [if_pos q] at this; exact this
            · next q6 =>
              rw [if_neg q6] at this
              split
              · next q => rw [if_pos q] at this; exact this
              · next q7 =>
                rw [if_neg q7] at this
                split
                · next q => rw [if_pos q] at this; exact this
                · next q8 =>
                  rw [if_neg q8] at this
                  split
                  · next q => rw [if_pos (by omega)] at this; exact this
                  · trivial
theorem hrAll_ty (hng : ng ≤ 6) (hnd : nd ≤ 12) (hQ : QI g ng nd nc) : QI (hrAll g nc) ng nd 0 :=
  QI_less (Nat.zero_le nc) hnd hng (QI_o (hrN_ty hng hnd hQ nc (Nat.le_refl _)) (by omega))
theorem c_hasN {v : Int32} (ho : DI o) (hng : ng ≤ 6) (hnd : nd ≤ 12) (h4 : g 4 = jI nd) : Ev 6 (0, [.ref o, .int v], [], 0, 0, MM Ln (LD σ o g ng nd nc) lo db) K ↔ K (.inl (some (.int (bI (hs v nd))))) (MM Ln (LD σ o g ng nd nc) lo db) := by
  have hh : hs v nd ↔ (¬ v < jI 0 ∧ v < jI nd) := by
    unfold hs
    rw [Int32.lt_iff_toInt_lt, Int32.lt_iff_toInt_lt, jI_toInt (by decide), jI_toInt (by omega)]
    omega
  rw [bI_iff hh]
  simp (disch := first | assumption | omega) only [s_6_0, s_6_1, s_6_4, s_6_5, s_6_6, s_6_9, s_6_12, s_6_13, s_6_16, s_6_17, jI_mul, jI_add, jI_tnc, jI_ixT, true_and, and_true, bZ_0, bZ_1, bZ_b, jI_nz, jI_div, jI_rem, jI_mod, Nat.add_zero, bI_if, not_false_iff, if_true, if_false, eq_self, LD_s6, LD_s7, LD_s8, LD_s9, LD_s10, LD_s11, LD_s12, LD_b0, LD_b1, LD_b2, LD_b3, LD_b4, LD_b5, LD_b6, LD_b7, LD_g1, LD_g2, LD_g3, LD_g4, LD_n0, LD_n1, LD_n2, LD_n3, LD_n4, LD_n5, LD_n6, LD_n7, LD_n8, LD_cp, LD_ac, LD_or, LD_oh, h4]
  unfold bI
  by_cases h1 : v < jI 0
  · rw [if_pos h1, if_neg (fun e => e.1 h1)]
  · rw [if_neg h1]
    by_cases h2 : v < jI nd
    · rw [if_neg (Int32.not_le.mpr h2), if_pos ⟨h1, h2⟩]
    · rw [if_pos (Int32.not_lt.mp h2), if_neg (fun e => h2 e.2)]
theorem c_hasG {v : Int32} (ho : DI o) (hng : ng ≤ 6) (hnd : nd ≤ 12) (h3 : g 3 = jI ng) : Ev 5 (0, [.ref o, .int v], [], 0, 0, MM Ln (LD σ o g ng nd nc) lo db) K ↔ K (.inl (some (.int (bI (hs v ng))))) (MM Ln (LD σ o g ng nd nc) lo db) := by
  have hh : hs v ng ↔ (¬ v < jI 0 ∧ v < jI ng) := by
    unfold hs
    rw [Int32.lt_iff_toInt_lt, Int32.lt_iff_toInt_lt, jI_toInt (by decide), jI_toInt (by omega)]
    omega
  rw [bI_iff hh]
  simp (disch := first | assumption | omega) only [s_5_0, s_5_1, s_5_4, s_5_5, s_5_6, s_5_9, s_5_12, s_5_13, s_5_16, s_5_17, jI_mul, jI_add, jI_tnc, jI_ixT, true_and, and_true, bZ_0, bZ_1, bZ_b, jI_nz, jI_div, jI_rem, jI_mod, Nat.add_zero, bI_if, not_false_iff, if_true, if_false, eq_self, LD_s6, LD_s7, LD_s8, LD_s9, LD_s10, LD_s11, LD_s12, LD_b0, LD_b1, LD_b2, LD_b3, LD_b4, LD_b5, LD_b6, LD_b7, LD_g1, LD_g2, LD_g3, LD_g4, LD_n0, LD_n1, LD_n2, LD_n3, LD_n4, LD_n5, LD_n6, LD_n7, LD_n8, LD_cp, LD_ac, LD_or, LD_oh, h3]
  unfold bI
  by_cases h1 : v < jI 0
  · rw [if_pos h1, if_neg (fun e => e.1 h1)]
  · rw [if_neg h1]
    by_cases h2 : v < jI ng
    · rw [if_neg (Int32.not_le.mpr h2), if_pos ⟨h1, h2⟩]
    · rw [if_pos (Int32.not_lt.mp h2), if_neg (fun e => h2 e.2)]
/-- what an hour may change in the memory beside the numbers -/
def Fo (o : Nat) (σ σ' : Nat → Nat → Int32) : Prop := (∀ a, (a < o ∨ o + 31 ≤ a) → σ' a = σ a) ∧ ∀ i, i < 6 → σ' (ohA o i) = σ (ohA o i)
theorem Fo.refl : Fo o σ σ := ⟨fun _ _ => rfl, fun _ _ => rfl⟩
theorem Fo.trans {σ σ' σ'' : Nat → Nat → Int32} (h : Fo o σ σ') (h' : Fo o σ' σ'') : Fo o σ σ'' := ⟨fun a h1 => (h'.1 a h1).trans (h.1 a h1), fun i hi => (h'.2 i hi).trans (h.2 i hi)⟩
theorem Fc.fo {σ' : Nat → Nat → Int32} (f : Fc o σ σ') : Fo o σ σ' := ⟨fun a h1 => f a (by unfold orA; omega), fun i hi => f _ (by unfold ohA orA; omega)⟩
theorem Fo.ld {g' : Gr} (hng : ng ≤ 6) (hnd : nd ≤ 12) : Fo o σ (LD σ o g' ng nd nc) := ⟨fun a h1 => by funext k; exact LD_out hng hnd h1, fun i hi => by funext k; exact LD_oh hng hi⟩
theorem Fo.toOH {σ' : Nat → Nat → Int32} (f : Fo o σ σ') (hng : ng ≤ 6) (hO : OHc σ o ng oh) : OHc σ' o ng oh := by
  intro i hi
  rw [f.2 i (by omega)]
  exact hO i hi
theorem c_hearAll (ho : DI o) (hng : ng ≤ 6) (hnd : nd ≤ 12) (hnc : nc ≤ 8) (h4 : g 4 = jI nd) (h5 : g 5 = jI nc) (hQ : QI g ng nd nc)
    (H : ∀ σ', Fo o σ σ' → K (.inl none) (MM Ln (LD σ' o (hrAll g nc) ng nd 0) lo db)) : Ev 22 (0, [.ref o, .null], [], 0, 0, MM Ln (LD σ o g ng nd nc) lo db) K := by
  simp (disch := first | assumption | omega) only [s_22_0, s_22_1, s_22_3, s_22_4, s_22_7, s_22_10, s_22_11, s_22_12, s_22_15, s_22_16, s_22_17, r_22_17, s_22_20, s_22_23, s_22_24, s_22_25, s_22_28, s_22_29, s_22_30, r_22_30, s_22_33, s_22_36, s_22_37, s_22_38, s_22_41, s_22_42, s_22_45, s_22_46, s_22_47, s_22_48, s_22_49, s_22_52, s_22_53, s_22_56, s_22_57, s_22_58, s_22_59, r_22_59, s_22_62, s_22_65, s_22_68, s_22_69, s_22_70, s_22_73, jI_mul, jI_add, jI_tnc, jI_ixT, true_and, and_true, bZ_0, bZ_1, bZ_b, jI_nz, jI_div, jI_rem, jI_mod, Nat.add_zero, bI_if, not_false_iff, if_true, if_false, eq_self]
  refine lup0 nc (fun i x => x = (2, [.ref o, .int (jI i)], [], 0, 0, MM Ln (LD σ o (itN i (fun i g => hrS g (cA g i) (cB g i)) g) ng nd nc) lo db)) rfl ?_ ?_
  · rintro i x hi rfl hn
    have Q1 := hrN_ty hng hnd hQ i (by omega)
    obtain ⟨a, b, ha, hb, ea, eb⟩ := cpl_of hng hnd Q1 (i := i) (by omega)
    have e1 := cA_of ea (by omega)
    have e2 := cB_of eb (by omega)
    have hv := hrN_lo (CPL_of hng hnd hQ) i (by omega)
    have e5 := (hv 5 (by omega)).trans h5
    have e4 := (hv 4 (by omega)).trans h4
    have hn := hn _ rfl
    rw [itN_succ, e1, e2] at hn
    generalize itN i (fun i g => hrS g (cA g i) (cB g i)) g = z at *
    rw [s_22_2]
    simp (disch := first | assumption | omega) only [s_22_0, s_22_1, s_22_3, s_22_4, s_22_7, s_22_10, s_22_11, s_22_12, s_22_15, s_22_16, s_22_17, r_22_17, s_22_20, s_22_23, s_22_24, s_22_25, s_22_28, s_22_29, s_22_30, r_22_30, s_22_33, s_22_36, s_22_37, s_22_38, s_22_41, s_22_42, s_22_45, s_22_46, s_22_47, s_22_48, s_22_49, s_22_52, s_22_53, s_22_56, s_22_57, s_22_58, s_22_59, r_22_59, s_22_62, s_22_65, s_22_68, s_22_69, s_22_70, s_22_73, jI_mul, jI_add, jI_tnc, jI_ixT, true_and, and_true, bZ_0, bZ_1, bZ_b, jI_nz, jI_div, jI_rem, jI_mod, Nat.add_zero, bI_if, not_false_iff, if_true, if_false, eq_self, LD_s6, LD_s7, LD_s8, LD_s9, LD_s10, LD_s11, LD_s12, LD_b0, LD_b1, LD_b2, LD_b3, LD_b4, LD_b5, LD_b6, LD_b7, LD_g1, LD_g2, LD_g3, LD_g4, LD_n0, LD_n1, LD_n2, LD_n3, LD_n4, LD_n5, LD_n6, LD_n7, LD_n8, LD_cp, LD_ac, LD_or, LD_oh, e5, jI_le, ea, eb, c_hasN ho hng hnd e4, hs_jI hnd, c_hear ho hng hnd ha hb ((QC_8 hng hb).mp (Q1 _))]
    rw [if_neg (by omega), if_pos ha, if_pos hb]
    exact hn
  · rintro x rfl
    have hv := hrN_lo (CPL_of hng hnd hQ) nc (by omega)
    have e5 := (hv 5 (by omega)).trans h5
    rw [s_22_2]
    simp (disch := first | assumption | omega) only [s_22_0, s_22_1, s_22_3, s_22_4, s_22_7, s_22_10, s_22_11, s_22_12, s_22_15, s_22_16, s_22_17, r_22_17, s_22_20, s_22_23, s_22_24, s_22_25, s_22_28, s_22_29, s_22_30, r_22_30, s_22_33, s_22_36, s_22_37, s_22_38, s_22_41, s_22_42, s_22_45, s_22_46, s_22_47, s_22_48, s_22_49, s_22_52, s_22_53, s_22_56, s_22_57, s_22_58, s_22_59, r_22_59, s_22_62, s_22_65, s_22_68, s_22_69, s_22_70, s_22_73, jI_mul, jI_add, jI_tnc, jI_ixT, true_and, and_true, bZ_0, bZ_1, bZ_b, jI_nz, jI_div, jI_rem, jI_mod, Nat.add_zero, bI_if, not_false_iff, if_true, if_false, eq_self, LD_s6, LD_s7, LD_s8, LD_s9, LD_s10, LD_s11, LD_s12, LD_b0, LD_b1, LD_b2, LD_b3, LD_b4, LD_b5, LD_b6, LD_b7, LD_g1, LD_g2, LD_g3, LD_g4, LD_n0, LD_n1, LD_n2, LD_n3, LD_n4, LD_n5, LD_n6, LD_n7, LD_n8, LD_cp, LD_ac, LD_or, LD_oh, LD_us6, LD_us7, LD_us8, LD_us9, LD_us10, LD_us11, LD_us12, LD_ub0, LD_ub1, LD_ub2, LD_ub3, LD_ub4, LD_ub5, LD_ub6, LD_ub7, LD_ug1, LD_ug2, LD_ug3, LD_ug4, LD_un0, LD_un1, LD_un2, LD_un3, LD_un4, LD_un5, LD_un6, LD_un7, LD_un8, LD_uor, LD_uoh, e5, jI_le, Nat.le_refl]
    rw [LD_less (Nat.zero_le nc)]
    exact H _ (Fo.ld hng hnd)
end
