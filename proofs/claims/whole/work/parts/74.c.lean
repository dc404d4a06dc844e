/-! THE CLASS: changes, as the law calls them -/
set_option maxRecDepth 16384
section
variable {K : Ou → Me → Prop} {Ln : Nat} {σ σ' : Nat → Nat → Int32} {g : Gr} {lo : Nat → Nat → Int64} {db : Nat → Nat → UInt64} {μ : Me} {oh : Nat → Nat → Bool} {o ng nd nc h i : Nat} {H : List Sy} {sv : Option Sy} {y0 d0 : Int32} {r : (Nat → Nat) × Nat × Int32}
theorem w_inflow {w : Int32} (hG : Gd ((g, oh, ng, nd, nc, h), H, sv, y0, d0, r)) (hC : CI σ ((g, oh, ng, nd, nc, h), H, sv, y0, d0, r)) (F : ¬ rng w 0 200 → K (.inl (some (.int (jI 1)))) (MM Ln σ lo db))
    (HH : rng w 0 200 → ∀ σ', CI σ' ((gu g 1 w, oh, ng, nd, nc, h), ((g, oh, ng, nd, nc, h) :: H).take 8, sv, y0, d0, r) → PC σ σ' → K (.inl (some (.int (jI 0)))) (MM Ln σ' (u2 lo 377 0 (g 1).toInt64) db)) :
    Ev 185 (0, [.ref 0, .int w, .ref 377, .null], [], 0, 0, MM Ln σ lo db) K := by
  have hD1 := DI_1
  have hB : Cb g ng nd nc h := hG.1
  have hng := hB.1
  have hnd := hB.2.1
  simp (disch := first | assumption | omega) only [s_185_0, s_185_1, s_185_2, s_185_3, s_185_4, r_185_4, rt_185_4_0, s_185_7, s_185_8, s_185_9, s_185_13, s_185_14, s_185_15, s_185_16, s_73_0, s_73_1, r_73_1, s_73_4, s_73_7, s_73_17, s_73_18, s_73_21, s_73_22, s_73_25, r_73_25, s_73_28, s_73_29, s_73_32, s_73_35, s_73_36, s_73_37, s_73_40, s_73_41, s_73_44, s_73_45, jI_mul, jI_add, jI_tnc, jI_ixT, true_and, and_true, bZ_0, bZ_1, bZ_b, jI_nz, jI_div, jI_rem, jI_mod, Nat.add_zero, bI_if, not_false_iff, if_true, if_false, eq_self, c_inflow]
  by_cases q : rng w 0 200
  · rw [if_pos q]
    refine c_keep hG hC (fun τ t1 t2 t3 => ?_)
    have tR : LD τ 1 g ng nd nc = τ := t1.1.1
    rw [MM_LD tR]
    simp (disch := first | assumption | omega) only [s_185_0, s_185_1, s_185_2, s_185_3, s_185_4, r_185_4, rt_185_4_0, s_185_7, s_185_8, s_185_9, s_185_13, s_185_14, s_185_15, s_185_16, s_73_0, s_73_1, r_73_1, s_73_4, s_73_7, s_73_17, s_73_18, s_73_21, s_73_22, s_73_25, r_73_25, s_73_28, s_73_29, s_73_32, s_73_35, s_73_36, s_73_37, s_73_40, s_73_41, s_73_44, s_73_45, jI_mul, jI_add, jI_tnc, jI_ixT, true_and, and_true, bZ_0, bZ_1, bZ_b, jI_nz, jI_div, jI_rem, jI_mod, Nat.add_zero, bI_if, not_false_iff, if_true, if_false, eq_self, LD_s6, LD_s7, LD_s8, LD_s9, LD_s10, LD_s11, LD_s12, LD_b0, LD_b1, LD_b2, LD_b3, LD_b4, LD_b5, LD_b6, LD_b7, LD_g1, LD_g2, LD_g3, LD_g4, LD_n0, LD_n1, LD_n2, LD_n3, LD_n4, LD_n5, LD_n6, LD_n7, LD_n8, LD_cp, LD_ac, LD_or, LD_oh, LD_us6, LD_us7, LD_us8, LD_us9, LD_us10, LD_us11, LD_us12, LD_ub0, LD_ub1, LD_ub2, LD_ub3, LD_ub4, LD_ub5, LD_ub6, LD_ub7, LD_ug1, LD_ug2, LD_ug3, LD_ug4, LD_un0, LD_un1, LD_un2, LD_un3, LD_un4, LD_un5, LD_un6, LD_un7, LD_un8, LD_uor, LD_uoh]
    exact HH q _ (CI_ld (Gd_keep hG) t1) (t2.ld hng hnd)
  · rw [if_neg q]
    exact F q
theorem w_fine {w : Int32} (hG : Gd ((g, oh, ng, nd, nc, h), H, sv, y0, d0, r)) (hC : CI σ ((g, oh, ng, nd, nc, h), H, sv, y0, d0, r)) (F : ¬ rng w 1 30 → K (.inl (some (.int (jI 1)))) (MM Ln σ lo db))
    (HH : rng w 1 30 → ∀ σ', CI σ' ((gu g 2 w, oh, ng, nd, nc, h), ((g, oh, ng, nd, nc, h) :: H).take 8, sv, y0, d0, r) → PC σ σ' → K (.inl (some (.int (jI 0)))) (MM Ln σ' (u2 lo 377 0 (g 2).toInt64) db)) :
    Ev 186 (0, [.ref 0, .int w, .ref 377, .null], [], 0, 0, MM Ln σ lo db) K := by
  have hD1 := DI_1
  have hB : Cb g ng nd nc h := hG.1
  have hng := hB.1
  have hnd := hB.2.1
  simp (disch := first | assumption | omega) only [s_186_0, s_186_1, s_186_2, s_186_3, s_186_4, r_186_4, rt_186_4_0, s_186_7, s_186_8, s_186_9, s_186_13, s_186_14, s_186_15, s_186_16, s_74_0, s_74_1, s_74_2, s_74_4, r_74_4, s_74_7, s_74_10, s_74_20, s_74_21, s_74_24, s_74_25, s_74_28, r_74_28, s_74_31, s_74_32, s_74_35, s_74_38, s_74_39, s_74_40, s_74_43, s_74_44, s_74_47, s_74_48, jI_mul, jI_add, jI_tnc, jI_ixT, true_and, and_true, bZ_0, bZ_1, bZ_b, jI_nz, jI_div, jI_rem, jI_mod, Nat.add_zero, bI_if, not_false_iff, if_true, if_false, eq_self, c_within]
  by_cases q : rng w 1 30
  · rw [if_pos q]
    refine c_keep hG hC (fun τ t1 t2 t3 => ?_)
    have tR : LD τ 1 g ng nd nc = τ := t1.1.1
    rw [MM_LD tR]
    simp (disch := first | assumption | omega) only [s_186_0, s_186_1, s_186_2, s_186_3, s_186_4, r_186_4, rt_186_4_0, s_186_7, s_186_8, s_186_9, s_186_13, s_186_14, s_186_15, s_186_16, s_74_0, s_74_1, s_74_2, s_74_4, r_74_4, s_74_7, s_74_10, s_74_20, s_74_21, s_74_24, s_74_25, s_74_28, r_74_28, s_74_31, s_74_32, s_74_35, s_74_38, s_74_39, s_74_40, s_74_43, s_74_44, s_74_47, s_74_48, jI_mul, jI_add, jI_tnc, jI_ixT, true_and, and_true, bZ_0, bZ_1, bZ_b, jI_nz, jI_div, jI_rem, jI_mod, Nat.add_zero, bI_if, not_false_iff, if_true, if_false, eq_self, LD_s6, LD_s7, LD_s8, LD_s9, LD_s10, LD_s11, LD_s12, LD_b0, LD_b1, LD_b2, LD_b3, LD_b4, LD_b5, LD_b6, LD_b7, LD_g1, LD_g2, LD_g3, LD_g4, LD_n0, LD_n1, LD_n2, LD_n3, LD_n4, LD_n5, LD_n6, LD_n7, LD_n8, LD_cp, LD_ac, LD_or, LD_oh, LD_us6, LD_us7, LD_us8, LD_us9, LD_us10, LD_us11, LD_us12, LD_ub0, LD_ub1, LD_ub2, LD_ub3, LD_ub4, LD_ub5, LD_ub6, LD_ub7, LD_ug1, LD_ug2, LD_ug3, LD_ug4, LD_un0, LD_un1, LD_un2, LD_un3, LD_un4, LD_un5, LD_un6, LD_un7, LD_un8, LD_uor, LD_uoh]
    exact HH q _ (CI_ld (Gd_keep hG) t1) (t2.ld hng hnd)
  · rw [if_neg q]
    exact F q
theorem w_gate {w : Int32} (hG : Gd ((g, oh, ng, nd, nc, h), H, sv, y0, d0, r)) (hC : CI σ ((g, oh, ng, nd, nc, h), H, sv, y0, d0, r)) (F1 : ¬ rng w 1 60 → K (.inl (some (.int (jI 1)))) (MM Ln σ lo db))
    (F2 : rng w 1 60 → ng = 6 → ∀ σ', CI σ' ((g, oh, ng, nd, nc, h), H, sv, jI 1, jI 6, r) → PC σ σ' → K (.inl (some (.int (jI 2)))) (MM Ln σ' lo db))
    (HH : rng w 1 60 → ng < 6 → ∀ σ', CI σ' ((gateS g ng w, ohZ oh ng, ng + 1, nd, nc, h), ((g, oh, ng, nd, nc, h) :: H).take 8, sv, y0, d0, r) → PC σ σ' → K (.inl (some (.int (jI 0)))) (MM Ln σ' (u2 lo 377 0 (jI ng).toInt64) db)) :
    Ev 187 (0, [.ref 0, .int w, .ref 377, .null], [], 0, 0, MM Ln σ lo db) K := by
  have hD1 := DI_1
  have hB : Cb g ng nd nc h := hG.1
  obtain ⟨hng, hnd, hnc, b4, b5, b6, b7, b8, hQ⟩ := hB
  have hR : LD σ 1 g ng nd nc = σ := hC.1.1
  rw [MM_LD hR]
  simp (disch := first | assumption | omega) only [s_187_0, s_187_1, s_187_2, s_187_3, s_187_4, r_187_4, rt_187_4_0, rt_187_4_1, s_187_7, s_187_8, s_187_9, s_187_13, s_187_14, s_187_16, s_187_17, s_187_18, s_187_19, s_75_0, s_75_1, s_75_2, s_75_4, r_75_4, s_75_7, s_75_10, s_75_20, s_75_21, s_75_24, s_75_27, s_75_29, s_75_32, s_75_33, s_75_36, s_75_37, s_75_39, r_75_39, s_75_42, s_75_43, s_75_53, s_75_54, s_75_57, s_75_58, s_75_61, r_75_61, s_75_64, s_75_65, s_75_68, s_75_69, r_75_69, s_75_72, jI_mul, jI_add, jI_tnc, jI_ixT, true_and, and_true, bZ_0, bZ_1, bZ_b, jI_nz, jI_div, jI_rem, jI_mod, Nat.add_zero, bI_if, not_false_iff, if_true, if_false, eq_self, c_within, LD_s6, LD_s7, LD_s8, LD_s9, LD_s10, LD_s11, LD_s12, LD_b0, LD_b1, LD_b2, LD_b3, LD_b4, LD_b5, LD_b6, LD_b7, LD_g1, LD_g2, LD_g3, LD_g4, LD_n0, LD_n1, LD_n2, LD_n3, LD_n4, LD_n5, LD_n6, LD_n7, LD_n8, LD_cp, LD_ac, LD_or, LD_oh, b5, jI_lt]
  by_cases q : rng w 1 60
  · rw [if_pos q]
    by_cases q6 : ng < 6
    · rw [if_pos q6, hR]
      refine c_keep hG hC (fun τ t1 t2 t3 => ?_)
      simp (disch := first | assumption | omega) only [s_187_0, s_187_1, s_187_2, s_187_3, s_187_4, r_187_4, rt_187_4_0, rt_187_4_1, s_187_7, s_187_8, s_187_9, s_187_13, s_187_14, s_187_16, s_187_17, s_187_18, s_187_19, s_75_0, s_75_1, s_75_2, s_75_4, r_75_4, s_75_7, s_75_10, s_75_20, s_75_21, s_75_24, s_75_27, s_75_29, s_75_32, s_75_33, s_75_36, s_75_37, s_75_39, r_75_39, s_75_42, s_75_43, s_75_53, s_75_54, s_75_57, s_75_58, s_75_61, r_75_61, s_75_64, s_75_65, s_75_68, s_75_69, r_75_69, s_75_72, jI_mul, jI_add, jI_tnc, jI_ixT, true_and, and_true, bZ_0, bZ_1, bZ_b, jI_nz, jI_div, jI_rem, jI_mod, Nat.add_zero, bI_if, not_false_iff, if_true, if_false, eq_self]
      refine c_addGate (oh := oh) hD1 t1.1 q6 hnd hnc b5 (fun τ' t4 t5 => ?_)
      simp (disch := first | assumption | omega) only [s_187_0, s_187_1, s_187_2, s_187_3, s_187_4, r_187_4, rt_187_4_0, rt_187_4_1, s_187_7, s_187_8, s_187_9, s_187_13, s_187_14, s_187_16, s_187_17, s_187_18, s_187_19, s_75_0, s_75_1, s_75_2, s_75_4, r_75_4, s_75_7, s_75_10, s_75_20, s_75_21, s_75_24, s_75_27, s_75_29, s_75_32, s_75_33, s_75_36, s_75_37, s_75_39, r_75_39, s_75_42, s_75_43, s_75_53, s_75_54, s_75_57, s_75_58, s_75_61, r_75_61, s_75_64, s_75_65, s_75_68, s_75_69, r_75_69, s_75_72, jI_mul, jI_add, jI_tnc, jI_ixT, true_and, and_true, bZ_0, bZ_1, bZ_b, jI_nz, jI_div, jI_rem, jI_mod, Nat.add_zero, bI_if, not_false_iff, if_true, if_false, eq_self]
      exact HH q q6 _ (CI_curF (s' := (gateS g ng w, ohZ oh ng, ng + 1, nd, nc, h)) (Gd_keep hG) t1 t4 t5) (t2.out t5)
    · rw [if_neg q6]
      simp (disch := first | assumption | omega) only [s_187_0, s_187_1, s_187_2, s_187_3, s_187_4, r_187_4, rt_187_4_0, rt_187_4_1, s_187_7, s_187_8, s_187_9, s_187_13, s_187_14, s_187_16, s_187_17, s_187_18, s_187_19, s_75_0, s_75_1, s_75_2, s_75_4, r_75_4, s_75_7, s_75_10, s_75_20, s_75_21, s_75_24, s_75_27, s_75_29, s_75_32, s_75_33, s_75_36, s_75_37, s_75_39, r_75_39, s_75_42, s_75_43, s_75_53, s_75_54, s_75_57, s_75_58, s_75_61, r_75_61, s_75_64, s_75_65, s_75_68, s_75_69, r_75_69, s_75_72, jI_mul, jI_add, jI_tnc, jI_ixT, true_and, and_true, bZ_0, bZ_1, bZ_b, jI_nz, jI_div, jI_rem, jI_mod, Nat.add_zero, bI_if, not_false_iff, if_true, if_false, eq_self, m_note, LD_urf]
      have e := NT_of (a := 1) (b := jI 6) hR hD1 hng hnd
      unfold NT at e
      rw [e]
      exact F2 q (by omega) _ (CI_note hG hC) PC.note
  · rw [if_neg q, hR]
    exact F1 q
theorem w_garden {v bd sh co : Int32} (hG : Gd ((g, oh, ng, nd, nc, h), H, sv, y0, d0, r)) (hC : CI σ ((g, oh, ng, nd, nc, h), H, sv, y0, d0, r)) (F1 : ¬ hs v ng → K (.inl (some (.int (jI 1)))) (MM Ln σ lo db))
    (F2 : hs v ng → ¬ (rng bd 1 20 ∧ rng sh 1 9 ∧ rng co 0 99) → K (.inl (some (.int (jI 2)))) (MM Ln σ lo db))
    (F3 : hs v ng → (rng bd 1 20 ∧ rng sh 1 9 ∧ rng co 0 99) → nd = 12 → ∀ σ', CI σ' ((g, oh, ng, nd, nc, h), H, sv, jI 1, jI 12, r) → PC σ σ' → K (.inl (some (.int (jI 3)))) (MM Ln σ' lo db))
    (HH : ∀ gt, gt < ng → v = jI gt → (rng bd 1 20 ∧ rng sh 1 9 ∧ rng co 0 99) → nd < 12 → ∀ σ', CI σ' ((garS g nd gt bd sh co, oh, ng, nd + 1, nc, h), ((g, oh, ng, nd, nc, h) :: H).take 8, sv, y0, d0, r) → PC σ σ' → K (.inl (some (.int (jI 0)))) (MM Ln σ' (u2 lo 377 0 (jI nd).toInt64) db)) :
    Ev 188 (0, [.ref 0, .int v, .int bd, .int sh, .int co, .ref 377, .null], [], 0, 0, MM Ln σ lo db) K := by
  have hD1 := DI_1
  have hB : Cb g ng nd nc h := hG.1
  obtain ⟨hng, hnd, hnc, b4, b5, b6, b7, b8, hQ⟩ := hB
  have hR : LD σ 1 g ng nd nc = σ := hC.1.1
  rw [MM_LD hR]
  simp (disch := first | assumption | omega) only [s_188_0, s_188_2, s_188_3, s_188_4, s_188_5, s_188_6, s_188_7, s_188_9, r_188_9, rt_188_9_2, rt_188_9_0, rt_188_9_1, s_188_12, s_188_13, s_188_14, s_188_19, s_188_20, s_188_23, s_188_24, s_188_27, s_188_28, s_188_29, s_188_30, s_76_0, s_76_1, s_76_4, s_76_5, r_76_5, s_76_8, s_76_11, s_76_21, s_76_22, s_76_23, s_76_25, r_76_25, s_76_28, s_76_31, s_76_32, s_76_33, s_76_35, r_76_35, s_76_38, s_76_41, s_76_43, s_76_44, s_76_46, r_76_46, s_76_49, s_76_52, s_76_62, s_76_63, s_76_66, s_76_69, s_76_71, s_76_74, s_76_75, s_76_78, s_76_79, s_76_81, r_76_81, s_76_84, s_76_85, s_76_95, s_76_96, s_76_99, s_76_100, s_76_103, r_76_103, s_76_106, s_76_107, s_76_110, s_76_111, s_76_112, s_76_113, s_76_115, r_76_115, s_76_118, jI_mul, jI_add, jI_tnc, jI_ixT, true_and, and_true, bZ_0, bZ_1, bZ_b, jI_nz, jI_div, jI_rem, jI_mod, Nat.add_zero, bI_if, not_false_iff, if_true, if_false, eq_self, c_within, LD_s6, LD_s7, LD_s8, LD_s9, LD_s10, LD_s11, LD_s12, LD_b0, LD_b1, LD_b2, LD_b3, LD_b4, LD_b5, LD_b6, LD_b7, LD_g1, LD_g2, LD_g3, LD_g4, LD_n0, LD_n1, LD_n2, LD_n3, LD_n4, LD_n5, LD_n6, LD_n7, LD_n8, LD_cp, LD_ac, LD_or, LD_oh, b6, jI_lt, c_hasG]
  by_cases q : hs v ng
  · obtain ⟨gt, hgt, rfl⟩ := hs_of q (by omega)
    rw [if_pos q]
    by_cases q1 : rng bd 1 20
    · rw [if_pos q1]
      by_cases q2 : rng sh 1 9
      · rw [if_pos q2]
        by_cases q3 : rng co 0 99
        · rw [if_pos q3]
          by_cases q6 : nd < 12
          · rw [if_pos q6, hR]
            refine c_keep hG hC (fun τ t1 t2 t3 => ?_)
            simp (disch := first | assumption | omega) only [s_188_0, s_188_2, s_188_3, s_188_4, s_188_5, s_188_6, s_188_7, s_188_9, r_188_9, rt_188_9_2, rt_188_9_0, rt_188_9_1, s_188_12, s_188_13, s_188_14, s_188_19, s_188_20, s_188_23, s_188_24, s_188_27, s_188_28, s_188_29, s_188_30, s_76_0, s_76_1, s_76_4, s_76_5, r_76_5, s_76_8, s_76_11, s_76_21, s_76_22, s_76_23, s_76_25, r_76_25, s_76_28, s_76_31, s_76_32, s_76_33, s_76_35, r_76_35, s_76_38, s_76_41, s_76_43, s_76_44, s_76_46, r_76_46, s_76_49, s_76_52, s_76_62, s_76_63, s_76_66, s_76_69, s_76_71, s_76_74, s_76_75, s_76_78, s_76_79, s_76_81, r_76_81, s_76_84, s_76_85, s_76_95, s_76_96, s_76_99, s_76_100, s_76_103, r_76_103, s_76_106, s_76_107, s_76_110, s_76_111, s_76_112, s_76_113, s_76_115, r_76_115, s_76_118, jI_mul, jI_add, jI_tnc, jI_ixT, true_and, and_true, bZ_0, bZ_1, bZ_b, jI_nz, jI_div, jI_rem, jI_mod, Nat.add_zero, bI_if, not_false_iff, if_true, if_false, eq_self]
            refine c_addGarden (oh := oh) hD1 t1.1 hng q6 hnc b6 (fun τ' t4 t5 => ?_)
            simp (disch := first | assumption | omega) only [s_188_0, s_188_2, s_188_3, s_188_4, s_188_5, s_188_6, s_188_7, s_188_9, r_188_9, rt_188_9_2, rt_188_9_0, rt_188_9_1, s_188_12, s_188_13, s_188_14, s_188_19, s_188_20, s_188_23, s_188_24, s_188_27, s_188_28, s_188_29, s_188_30, s_76_0, s_76_1, s_76_4, s_76_5, r_76_5, s_76_8, s_76_11, s_76_21, s_76_22, s_76_23, s_76_25, r_76_25, s_76_28, s_76_31, s_76_32, s_76_33, s_76_35, r_76_35, s_76_38, s_76_41, s_76_43, s_76_44, s_76_46, r_76_46, s_76_49, s_76_52, s_76_62, s_76_63, s_76_66, s_76_69, s_76_71, s_76_74, s_76_75, s_76_78, s_76_79, s_76_81, r_76_81, s_76_84, s_76_85, s_76_95, s_76_96, s_76_99, s_76_100, s_76_103, r_76_103, s_76_106, s_76_107, s_76_110, s_76_111, s_76_112, s_76_113, s_76_115, r_76_115, s_76_118, jI_mul, jI_add, jI_tnc, jI_ixT, true_and, and_true, bZ_0, bZ_1, bZ_b, jI_nz, jI_div, jI_rem, jI_mod, Nat.add_zero, bI_if, not_false_iff, if_true, if_false, eq_self]
            exact HH gt hgt rfl ⟨q1, q2, q3⟩ q6 _ (CI_curF (s' := (garS g nd gt bd sh co, oh, ng, nd + 1, nc, h)) (Gd_keep hG) t1 t4 t5) (t2.out t5)
          · rw [if_neg q6]
            simp (disch := first | assumption | omega) only [s_188_0, s_188_2, s_188_3, s_188_4, s_188_5, s_188_6, s_188_7, s_188_9, r_188_9, rt_188_9_2, rt_188_9_0, rt_188_9_1, s_188_12, s_188_13, s_188_14, s_188_19, s_188_20, s_188_23, s_188_24, s_188_27, s_188_28, s_188_29, s_188_30, s_76_0, s_76_1, s_76_4, s_76_5, r_76_5, s_76_8, s_76_11, s_76_21, s_76_22, s_76_23, s_76_25, r_76_25, s_76_28, s_76_31, s_76_32, s_76_33, s_76_35, r_76_35, s_76_38, s_76_41, s_76_43, s_76_44, s_76_46, r_76_46, s_76_49, s_76_52, s_76_62, s_76_63, s_76_66, s_76_69, s_76_71, s_76_74, s_76_75, s_76_78, s_76_79, s_76_81, r_76_81, s_76_84, s_76_85, s_76_95, s_76_96, s_76_99, s_76_100, s_76_103, r_76_103, s_76_106, s_76_107, s_76_110, s_76_111, s_76_112, s_76_113, s_76_115, r_76_115, s_76_118, jI_mul, jI_add, jI_tnc, jI_ixT, true_and, and_true, bZ_0, bZ_1, bZ_b, jI_nz, jI_div, jI_rem, jI_mod, Nat.add_zero, bI_if, not_false_iff, if_true, if_false, eq_self, m_note, LD_urf]
            have e := NT_of (a := 1) (b := jI 12) hR hD1 hng hnd
            unfold NT at e
            rw [e]
            exact F3 q ⟨q1, q2, q3⟩ (by omega) _ (CI_note hG hC) PC.note
        · rw [if_neg q3, hR]
          exact F2 q (fun e => q3 e.2.2)
      · rw [if_neg q2, hR]
        exact F2 q (fun e => q2 e.2.1)
    · rw [if_neg q1, hR]
      exact F2 q (fun e => q1 e.1)
  · rw [if_neg q, hR]
    exact F1 q
theorem area_iff {x y : Int32} : (¬ x < jI 0 ∧ ¬ y < x ∧ y < jI 168) ↔ (rng x 0 167 ∧ ¬ y < x ∧ ¬ jI 167 < y) := by
  unfold rng
  simp only [Int32.lt_iff_toInt_lt, jI_toInt (show 0 < 2147483648 by decide), jI_toInt (show 168 < 2147483648 by decide), jI_toInt (show 167 < 2147483648 by decide)]
  omega
theorem w_open {v x y : Int32} {p : Bool} (hG : Gd ((g, oh, ng, nd, nc, h), H, sv, y0, d0, r)) (hC : CI σ ((g, oh, ng, nd, nc, h), H, sv, y0, d0, r)) (F1 : ¬ hs v ng → K (.inl (some (.int (jI 1)))) (MM Ln σ lo db))
    (F2 : hs v ng → ¬ (rng x 0 167 ∧ ¬ y < x ∧ ¬ jI 167 < y) → K (.inl (some (.int (jI 2)))) (MM Ln σ lo db))
    (HH : ∀ k a n, k < ng → v = jI k → x = jI a → y = jI (a + n) → a + n < 168 → ∀ σ', CI σ' ((opN g k a p (n + 1), ohR oh k a p (n + 1), ng, nd, nc, h), ((g, oh, ng, nd, nc, h) :: H).take 8, sv, y0, d0, r) → PC σ σ' → K (.inl (some (.int (jI 0)))) (MM Ln σ' (u2 lo 377 0 (jI (cntO (ohR oh k a p (n + 1)) k)).toInt64) db)) :
    Ev 189 (0, [.ref 0, .int v, .int x, .int y, .int (bI (p = true)), .ref 377, .null], [], 0, 0, MM Ln σ lo db) K := by
  have hD1 := DI_1
  have hB : Cb g ng nd nc h := hG.1
  obtain ⟨hng, hnd, hnc, b4, b5, b6, b7, b8, hQ⟩ := hB
  have hR : LD σ 1 g ng nd nc = σ := hC.1.1
  rw [MM_LD hR]
  simp (disch := first | assumption | omega) only [s_189_0, s_189_2, s_189_3, s_189_4, s_189_5, s_189_6, s_189_7, s_189_9, r_189_9, rt_189_9_2, rt_189_9_0, s_189_12, s_189_13, s_189_14, s_189_19, s_189_20, s_189_23, s_189_24, s_189_25, s_189_26, s_77_0, s_77_1, s_77_4, s_77_5, r_77_5, s_77_8, s_77_11, s_77_21, s_77_22, s_77_23, r_77_23, s_77_26, s_77_29, s_77_39, s_77_40, s_77_43, s_77_44, s_77_47, r_77_47, s_77_50, s_77_51, s_77_54, s_77_57, s_77_58, s_77_59, s_77_60, s_77_61, s_77_63, r_77_63, s_77_66, s_77_67, s_77_70, s_77_73, s_77_74, s_77_75, r_77_75, s_77_78, jI_mul, jI_add, jI_tnc, jI_ixT, true_and, and_true, bZ_0, bZ_1, bZ_b, jI_nz, jI_div, jI_rem, jI_mod, Nat.add_zero, bI_if, not_false_iff, if_true, if_false, eq_self, c_area, LD_s6, LD_s7, LD_s8, LD_s9, LD_s10, LD_s11, LD_s12, LD_b0, LD_b1, LD_b2, LD_b3, LD_b4, LD_b5, LD_b6, LD_b7, LD_g1, LD_g2, LD_g3, LD_g4, LD_n0, LD_n1, LD_n2, LD_n3, LD_n4, LD_n5, LD_n6, LD_n7, LD_n8, LD_cp, LD_ac, LD_or, LD_oh, c_hasG]
  by_cases q : hs v ng
  · obtain ⟨k, hk, rfl⟩ := hs_of q (by omega)
    rw [if_pos q]
    by_cases q1 : ¬ x < jI 0 ∧ ¬ y < x ∧ y < jI 168
    · rw [if_pos q1, hR]
      obtain ⟨a, ha, rfl⟩ := jI_of (v := x) (Int32.not_lt.mp q1.1)
      obtain ⟨b, hb, rfl⟩ := jI_of (v := y) (Int32.le_trans (Int32.not_lt.mp q1.1) (Int32.not_lt.mp q1.2.1))
      have u1 := q1.2.1
      have u2' := q1.2.2
      rw [jI_lt hb ha] at u1
      rw [jI_lt hb (by decide)] at u2'
      obtain ⟨n, rfl⟩ : ∃ n, b = a + n := ⟨b - a, by omega⟩
      refine c_keep hG hC (fun τ t1 t2 t3 => ?_)
      have tR : LD τ 1 g ng nd nc = τ := t1.1.1
      have tO : OHc τ 1 ng oh := t1.1.2
      rw [MM_LD tR]
      have e1 := fun {K : Ou → Me → Prop} => c_setHours (K := K) (Ln := Ln) (σ := τ) (g := g) (lo := lo) (db := db) (nc := nc) (i := k) (a := a) (n := n) (p := p) hD1 hng hnd hk u2'
      have tO2 : OHc (shN τ (ohA 1 k) a p (n + 1)) 1 ng (ohR oh k a p (n + 1)) := OHc_setN hk hng tO _ (by omega)
      have e2 := fun {K : Ou → Me → Prop} => c_countO (K := K) (Ln := Ln) (g := g) (lo := lo) (db := db) (nc := nc) hD1 hng hnd hk tO2
      simp (disch := first | assumption | omega) only [s_189_0, s_189_2, s_189_3, s_189_4, s_189_5, s_189_6, s_189_7, s_189_9, r_189_9, rt_189_9_2, rt_189_9_0, s_189_12, s_189_13, s_189_14, s_189_19, s_189_20, s_189_23, s_189_24, s_189_25, s_189_26, s_77_0, s_77_1, s_77_4, s_77_5, r_77_5, s_77_8, s_77_11, s_77_21, s_77_22, s_77_23, r_77_23, s_77_26, s_77_29, s_77_39, s_77_40, s_77_43, s_77_44, s_77_47, r_77_47, s_77_50, s_77_51, s_77_54, s_77_57, s_77_58, s_77_59, s_77_60, s_77_61, s_77_63, r_77_63, s_77_66, s_77_67, s_77_70, s_77_73, s_77_74, s_77_75, r_77_75, s_77_78, jI_mul, jI_add, jI_tnc, jI_ixT, true_and, and_true, bZ_0, bZ_1, bZ_b, jI_nz, jI_div, jI_rem, jI_mod, Nat.add_zero, bI_if, not_false_iff, if_true, if_false, eq_self]
      refine e1.mpr ?_
      simp (disch := first | assumption | omega) only [s_189_0, s_189_2, s_189_3, s_189_4, s_189_5, s_189_6, s_189_7, s_189_9, r_189_9, rt_189_9_2, rt_189_9_0, s_189_12, s_189_13, s_189_14, s_189_19, s_189_20, s_189_23, s_189_24, s_189_25, s_189_26, s_77_0, s_77_1, s_77_4, s_77_5, r_77_5, s_77_8, s_77_11, s_77_21, s_77_22, s_77_23, r_77_23, s_77_26, s_77_29, s_77_39, s_77_40, s_77_43, s_77_44, s_77_47, r_77_47, s_77_50, s_77_51, s_77_54, s_77_57, s_77_58, s_77_59, s_77_60, s_77_61, s_77_63, r_77_63, s_77_66, s_77_67, s_77_70, s_77_73, s_77_74, s_77_75, r_77_75, s_77_78, jI_mul, jI_add, jI_tnc, jI_ixT, true_and, and_true, bZ_0, bZ_1, bZ_b, jI_nz, jI_div, jI_rem, jI_mod, Nat.add_zero, bI_if, not_false_iff, if_true, if_false, eq_self]
      refine e2.mpr ?_
      simp (disch := first | assumption | omega) only [s_189_0, s_189_2, s_189_3, s_189_4, s_189_5, s_189_6, s_189_7, s_189_9, r_189_9, rt_189_9_2, rt_189_9_0, s_189_12, s_189_13, s_189_14, s_189_19, s_189_20, s_189_23, s_189_24, s_189_25, s_189_26, s_77_0, s_77_1, s_77_4, s_77_5, r_77_5, s_77_8, s_77_11, s_77_21, s_77_22, s_77_23, r_77_23, s_77_26, s_77_29, s_77_39, s_77_40, s_77_43, s_77_44, s_77_47, r_77_47, s_77_50, s_77_51, s_77_54, s_77_57, s_77_58, s_77_59, s_77_60, s_77_61, s_77_63, r_77_63, s_77_66, s_77_67, s_77_70, s_77_73, s_77_74, s_77_75, r_77_75, s_77_78, jI_mul, jI_add, jI_tnc, jI_ixT, true_and, and_true, bZ_0, bZ_1, bZ_b, jI_nz, jI_div, jI_rem, jI_mod, Nat.add_zero, bI_if, not_false_iff, if_true, if_false, eq_self]
      rw [← LD_opN (p := p) hnc (show k < 6 by omega) (show a + (n + 1) ≤ 168 by omega)]
      have f1 : Fout 1 τ (LD (shN τ (ohA 1 k) a p (n + 1)) 1 (opN g k a p (n + 1)) ng nd nc) := Fout.ld hng hnd (fun z hz => shN_o (by unfold ohA; omega) _)
      exact HH k a n hk rfl rfl rfl u2' _ (CI_curF (s' := (opN g k a p (n + 1), ohR oh k a p (n + 1), ng, nd, nc, h)) (Gd_keep hG) t1 (RD.ld hng tO2) f1) (t2.out f1)
    · rw [if_neg q1, hR]
      exact F2 q (fun e => q1 (area_iff.mpr e))
  · rw [if_neg q, hR]
    exact F1 q
theorem w_pay {v w : Int32} (hG : Gd ((g, oh, ng, nd, nc, h), H, sv, y0, d0, r)) (hC : CI σ ((g, oh, ng, nd, nc, h), H, sv, y0, d0, r)) (F1 : ¬ hs v nd → K (.inl (some (.int (jI 1)))) (MM Ln σ lo db))
    (F2 : hs v nd → ¬ rng w 1 99 → K (.inl (some (.int (jI 2)))) (MM Ln σ lo db))
    (HH : ∀ k, k < nd → v = jI k → rng w 1 99 → ∀ σ', CI σ' ((gu g (75 + 9 * k + 3) (g (75 + 9 * k + 3) + w), oh, ng, nd, nc, h), ((g, oh, ng, nd, nc, h) :: H).take 8, sv, y0, d0, r) → PC σ σ' → K (.inl (some (.int (jI 0)))) (MM Ln σ' (u2 lo 377 0 (g (75 + 9 * k + 3) + w).toInt64) db)) :
    Ev 190 (0, [.ref 0, .int v, .int w, .ref 377, .null], [], 0, 0, MM Ln σ lo db) K := by
  have hD1 := DI_1
  have hB : Cb g ng nd nc h := hG.1
  obtain ⟨hng, hnd, hnc, b4, b5, b6, b7, b8, hQ⟩ := hB
  have hR : LD σ 1 g ng nd nc = σ := hC.1.1
  rw [MM_LD hR]
  simp (disch := first | assumption | omega) only [s_190_0, s_190_1, s_190_2, s_190_3, s_190_4, s_190_5, r_190_5, rt_190_5_2, rt_190_5_0, s_190_8, s_190_9, s_190_10, s_190_15, s_190_16, s_190_19, s_190_20, s_190_21, s_190_22, s_78_0, s_78_1, s_78_4, s_78_5, r_78_5, s_78_8, s_78_11, s_78_21, s_78_22, s_78_23, s_78_25, r_78_25, s_78_28, s_78_31, s_78_41, s_78_42, s_78_45, s_78_46, s_78_49, r_78_49, s_78_52, s_78_53, s_78_56, s_78_59, s_78_60, s_78_61, s_78_62, s_78_65, s_78_66, s_78_67, s_78_70, s_78_71, s_78_74, s_78_77, s_78_78, s_78_79, s_78_82, jI_mul, jI_add, jI_tnc, jI_ixT, true_and, and_true, bZ_0, bZ_1, bZ_b, jI_nz, jI_div, jI_rem, jI_mod, Nat.add_zero, bI_if, not_false_iff, if_true, if_false, eq_self, c_within, LD_s6, LD_s7, LD_s8, LD_s9, LD_s10, LD_s11, LD_s12, LD_b0, LD_b1, LD_b2, LD_b3, LD_b4, LD_b5, LD_b6, LD_b7, LD_g1, LD_g2, LD_g3, LD_g4, LD_n0, LD_n1, LD_n2, LD_n3, LD_n4, LD_n5, LD_n6, LD_n7, LD_n8, LD_cp, LD_ac, LD_or, LD_oh, c_hasN]
  by_cases q : hs v nd
  · obtain ⟨k, hk, rfl⟩ := hs_of q (by omega)
    rw [if_pos q]
    by_cases q1 : rng w 1 99
    · rw [if_pos q1, hR]
      refine c_keep hG hC (fun τ t1 t2 t3 => ?_)
      have tR : LD τ 1 g ng nd nc = τ := t1.1.1
      rw [MM_LD tR]
      simp (disch := first | assumption | omega) only [s_190_0, s_190_1, s_190_2, s_190_3, s_190_4, s_190_5, r_190_5, rt_190_5_2, rt_190_5_0, s_190_8, s_190_9, s_190_10, s_190_15, s_190_16, s_190_19, s_190_20, s_190_21, s_190_22, s_78_0, s_78_1, s_78_4, s_78_5, r_78_5, s_78_8, s_78_11, s_78_21, s_78_22, s_78_23, s_78_25, r_78_25, s_78_28, s_78_31, s_78_41, s_78_42, s_78_45, s_78_46, s_78_49, r_78_49, s_78_52, s_78_53, s_78_56, s_78_59, s_78_60, s_78_61, s_78_62, s_78_65, s_78_66, s_78_67, s_78_70, s_78_71, s_78_74, s_78_77, s_78_78, s_78_79, s_78_82, jI_mul, jI_add, jI_tnc, jI_ixT, true_and, and_true, bZ_0, bZ_1, bZ_b, jI_nz, jI_div, jI_rem, jI_mod, Nat.add_zero, bI_if, not_false_iff, if_true, if_false, eq_self, LD_s6, LD_s7, LD_s8, LD_s9, LD_s10, LD_s11, LD_s12, LD_b0, LD_b1, LD_b2, LD_b3, LD_b4, LD_b5, LD_b6, LD_b7, LD_g1, LD_g2, LD_g3, LD_g4, LD_n0, LD_n1, LD_n2, LD_n3, LD_n4, LD_n5, LD_n6, LD_n7, LD_n8, LD_cp, LD_ac, LD_or, LD_oh, LD_us6, LD_us7, LD_us8, LD_us9, LD_us10, LD_us11, LD_us12, LD_ub0, LD_ub1, LD_ub2, LD_ub3, LD_ub4, LD_ub5, LD_ub6, LD_ub7, LD_ug1, LD_ug2, LD_ug3, LD_ug4, LD_un0, LD_un1, LD_un2, LD_un3, LD_un4, LD_un5, LD_un6, LD_un7, LD_un8, LD_uor, LD_uoh, gu_at]
      exact HH k hk rfl q1 _ (CI_ld (Gd_keep hG) t1) (t2.ld hng hnd)
    · rw [if_neg q1, hR]
      exact F2 q q1
  · rw [if_neg q, hR]
    exact F1 q
theorem w_thief {v : Int32} {p : Prop} [Decidable p] (hG : Gd ((g, oh, ng, nd, nc, h), H, sv, y0, d0, r)) (hC : CI σ ((g, oh, ng, nd, nc, h), H, sv, y0, d0, r)) (F1 : ¬ hs v nd → K (.inl (some (.int (jI 1)))) (MM Ln σ lo db))
    (HH : ∀ k, k < nd → v = jI k → ∀ σ', CI σ' ((gu g (75 + 9 * k + 5) (bI p), oh, ng, nd, nc, h), ((g, oh, ng, nd, nc, h) :: H).take 8, sv, y0, d0, r) → PC σ σ' → K (.inl (some (.int (jI 0)))) (MM Ln σ' (u2 lo 377 0 (if g (75 + 9 * k + 5) = jI 0 then 0 else 1)) db)) :
    Ev 191 (0, [.ref 0, .int v, .int (bI p), .ref 377, .null], [], 0, 0, MM Ln σ lo db) K := by
  have hD1 := DI_1
  have hB : Cb g ng nd nc h := hG.1
  obtain ⟨hng, hnd, hnc, b4, b5, b6, b7, b8, hQ⟩ := hB
  have hR : LD σ 1 g ng nd nc = σ := hC.1.1
  rw [MM_LD hR]
  simp (disch := first | assumption | omega) only [s_191_0, s_191_1, s_191_2, s_191_3, s_191_4, s_191_5, r_191_5, rt_191_5_2, s_191_8, s_191_11, s_191_12, s_191_15, s_191_16, s_191_17, s_191_22, s_191_23, s_191_24, s_191_25, s_79_0, s_79_1, s_79_4, s_79_5, r_79_5, s_79_8, s_79_11, s_79_21, s_79_22, s_79_25, s_79_26, s_79_29, r_79_29, s_79_32, s_79_33, s_79_36, s_79_39, s_79_40, s_79_41, s_79_44, s_79_45, s_79_46, s_79_49, s_79_52, s_79_53, s_79_54, s_79_55, s_79_58, s_79_59, jI_mul, jI_add, jI_tnc, jI_ixT, true_and, and_true, bZ_0, bZ_1, bZ_b, jI_nz, jI_div, jI_rem, jI_mod, Nat.add_zero, bI_if, not_false_iff, if_true, if_false, eq_self, LD_s6, LD_s7, LD_s8, LD_s9, LD_s10, LD_s11, LD_s12, LD_b0, LD_b1, LD_b2, LD_b3, LD_b4, LD_b5, LD_b6, LD_b7, LD_g1, LD_g2, LD_g3, LD_g4, LD_n0, LD_n1, LD_n2, LD_n3, LD_n4, LD_n5, LD_n6, LD_n7, LD_n8, LD_cp, LD_ac, LD_or, LD_oh, c_hasN]
  by_cases q : hs v nd
  · obtain ⟨k, hk, rfl⟩ := hs_of q (by omega)
    rw [if_pos q, hR]
    refine c_keep hG hC (fun τ t1 t2 t3 => ?_)
    have tR : LD τ 1 g ng nd nc = τ := t1.1.1
    have hz : bZ (g (75 + 9 * k + 5)) = True := eq_true ((QC_5 hng hk).mp (hQ _))
    have HH := HH k hk rfl _ (CI_ld (g' := gu g (75 + 9 * k + 5) (bI p)) (h' := h) (Gd_keep hG) t1) (t2.ld hng hnd)
    rw [MM_LD tR]
    simp (disch := first | assumption | omega) only [s_191_0, s_191_1, s_191_2, s_191_3, s_191_4, s_191_5, r_191_5, rt_191_5_2, s_191_8, s_191_11, s_191_12, s_191_15, s_191_16, s_191_17, s_191_22, s_191_23, s_191_24, s_191_25, s_79_0, s_79_1, s_79_4, s_79_5, r_79_5, s_79_8, s_79_11, s_79_21, s_79_22, s_79_25, s_79_26, s_79_29, r_79_29, s_79_32, s_79_33, s_79_36, s_79_39, s_79_40, s_79_41, s_79_44, s_79_45, s_79_46, s_79_49, s_79_52, s_79_53, s_79_54, s_79_55, s_79_58, s_79_59, jI_mul, jI_add, jI_tnc, jI_ixT, true_and, and_true, bZ_0, bZ_1, bZ_b, jI_nz, jI_div, jI_rem, jI_mod, Nat.add_zero, bI_if, not_false_iff, if_true, if_false, eq_self, LD_s6, LD_s7, LD_s8, LD_s9, LD_s10, LD_s11, LD_s12, LD_b0, LD_b1, LD_b2, LD_b3, LD_b4, LD_b5, LD_b6, LD_b7, LD_g1, LD_g2, LD_g3, LD_g4, LD_n0, LD_n1, LD_n2, LD_n3, LD_n4, LD_n5, LD_n6, LD_n7, LD_n8, LD_cp, LD_ac, LD_or, LD_oh, LD_us6, LD_us7, LD_us8, LD_us9, LD_us10, LD_us11, LD_us12, LD_ub0, LD_ub1, LD_ub2, LD_ub3, LD_ub4, LD_ub5, LD_ub6, LD_ub7, LD_ug1, LD_ug2, LD_ug3, LD_ug4, LD_un0, LD_un1, LD_un2, LD_un3, LD_un4, LD_un5, LD_un6, LD_un7, LD_un8, LD_uor, LD_uoh, hz]
    by_cases e : g (75 + 9 * k + 5) = jI 0
    · rw [if_pos e] at HH ⊢; exact HH
    · rw [if_neg e] at HH ⊢; exact HH
  · rw [if_neg q, hR]
    exact F1 q
theorem w_complain {v w : Int32} (hG : Gd ((g, oh, ng, nd, nc, h), H, sv, y0, d0, r)) (hC : CI σ ((g, oh, ng, nd, nc, h), H, sv, y0, d0, r)) (F1 : ¬ (hs v nd ∧ hs w nd) → K (.inl (some (.int (jI 1)))) (MM Ln σ lo db))
    (F2 : hs v nd → hs w nd → v = w → K (.inl (some (.int (jI 2)))) (MM Ln σ lo db))
    (F3 : ∀ i, hs v nd → hs w nd → ¬ v = w → i < nc → g (183 + 2 * i) = v → g (184 + 2 * i) = w → (∀ j, j < i → ¬ (g (183 + 2 * j) = v ∧ g (184 + 2 * j) = w)) →
      ∀ σ', CI σ' ((g, oh, ng, nd, nc, h), H, sv, jI 2, jI i, r) → PC σ σ' → K (.inl (some (.int (jI 3)))) (MM Ln σ' lo db))
    (F4 : hs v nd → hs w nd → ¬ v = w → (∀ j, j < nc → ¬ (g (183 + 2 * j) = v ∧ g (184 + 2 * j) = w)) → nc = 8 → ∀ σ', CI σ' ((g, oh, ng, nd, nc, h), H, sv, jI 1, jI 8, r) → PC σ σ' → K (.inl (some (.int (jI 3)))) (MM Ln σ' lo db))
    (HH : ∀ a b, a < nd → b < nd → v = jI a → w = jI b → ¬ v = w → (∀ j, j < nc → ¬ (g (183 + 2 * j) = v ∧ g (184 + 2 * j) = w)) → nc < 8 → ∀ σ', CI σ' ((cplS g nc v w, oh, ng, nd, nc + 1, h), ((g, oh, ng, nd, nc, h) :: H).take 8, sv, y0, d0, r) → PC σ σ' → K (.inl (some (.int (jI 0)))) (MM Ln σ' (u2 lo 377 0 (jI (nc + 1)).toInt64) db)) :
    Ev 192 (0, [.ref 0, .int v, .int w, .ref 377, .null], [], 0, 0, MM Ln σ lo db) K := by
  have hD1 := DI_1
  have hB : Cb g ng nd nc h := hG.1
  obtain ⟨hng, hnd, hnc, b4, b5, b6, b7, b8, hQ⟩ := hB
  have hR : LD σ 1 g ng nd nc = σ := hC.1.1
  have n1 : (jI 1 = jI 0) = False := jI_nz (by decide) (by decide)
  rw [MM_LD hR]
  simp (disch := first | assumption | omega) only [s_192_0, s_192_1, s_192_2, s_192_3, s_192_4, s_192_5, r_192_5, rt_192_5_2, rt_192_5_0, rt_192_5_1, s_192_8, s_192_9, s_192_10, s_192_15, s_192_16, s_192_19, s_192_20, s_192_23, s_192_24, s_192_25, s_192_26, s_80_0, s_80_1, s_80_4, s_80_5, r_80_5, s_80_8, s_80_11, s_80_12, s_80_15, s_80_16, r_80_16, s_80_19, s_80_22, s_80_32, s_80_33, s_80_34, s_80_37, s_80_47, s_80_48, s_80_51, s_80_52, s_80_53, s_80_54, s_80_57, r_80_57, s_80_60, s_80_63, s_80_73, s_80_74, s_80_77, s_80_78, s_80_81, r_80_81, s_80_84, s_80_85, s_80_88, s_80_89, s_80_90, r_80_90, s_80_93, s_80_94, s_80_97, s_80_100, jI_mul, jI_add, jI_tnc, jI_ixT, true_and, and_true, bZ_0, bZ_1, bZ_b, jI_nz, jI_div, jI_rem, jI_mod, Nat.add_zero, bI_if, not_false_iff, if_true, if_false, eq_self, LD_s6, LD_s7, LD_s8, LD_s9, LD_s10, LD_s11, LD_s12, LD_b0, LD_b1, LD_b2, LD_b3, LD_b4, LD_b5, LD_b6, LD_b7, LD_g1, LD_g2, LD_g3, LD_g4, LD_n0, LD_n1, LD_n2, LD_n3, LD_n4, LD_n5, LD_n6, LD_n7, LD_n8, LD_cp, LD_ac, LD_or, LD_oh, c_hasN]
  by_cases q : hs v nd
  · obtain ⟨a, ha, rfl⟩ := hs_of q (by omega)
    rw [if_pos q]
    by_cases q1 : hs w nd
    · obtain ⟨b, hb, rfl⟩ := hs_of q1 (by omega)
      rw [if_pos q1]
      by_cases q2 : jI a = jI b
      · rw [if_pos q2, hR]
        exact F2 q q1 q2
      · rw [if_neg q2]
        refine c_refC hD1 hng hnd hnc b7 (fun i q4 q5 q6 q7 => ?_) (fun q4 q5 => ?_) (fun q4 q5 => ?_)
        · simp (disch := first | assumption | omega) only [s_192_0, s_192_1, s_192_2, s_192_3, s_192_4, s_192_5, r_192_5, rt_192_5_2, rt_192_5_0, rt_192_5_1, s_192_8, s_192_9, s_192_10, s_192_15, s_192_16, s_192_19, s_192_20, s_192_23, s_192_24, s_192_25, s_192_26, s_80_0, s_80_1, s_80_4, s_80_5, r_80_5, s_80_8, s_80_11, s_80_12, s_80_15, s_80_16, r_80_16, s_80_19, s_80_22, s_80_32, s_80_33, s_80_34, s_80_37, s_80_47, s_80_48, s_80_51, s_80_52, s_80_53, s_80_54, s_80_57, r_80_57, s_80_60, s_80_63, s_80_73, s_80_74, s_80_77, s_80_78, s_80_81, r_80_81, s_80_84, s_80_85, s_80_88, s_80_89, s_80_90, r_80_90, s_80_93, s_80_94, s_80_97, s_80_100, jI_mul, jI_add, jI_tnc, jI_ixT, true_and, and_true, bZ_0, bZ_1, bZ_b, jI_nz, jI_div, jI_rem, jI_mod, Nat.add_zero, bI_if, not_false_iff, if_true, if_false, eq_self, n1]
          rw [NT_of hR hD1 hng hnd]
          exact F3 i q q1 q2 q4 q5 q6 q7 _ (CI_note hG hC) PC.note
        · simp (disch := first | assumption | omega) only [s_192_0, s_192_1, s_192_2, s_192_3, s_192_4, s_192_5, r_192_5, rt_192_5_2, rt_192_5_0, rt_192_5_1, s_192_8, s_192_9, s_192_10, s_192_15, s_192_16, s_192_19, s_192_20, s_192_23, s_192_24, s_192_25, s_192_26, s_80_0, s_80_1, s_80_4, s_80_5, r_80_5, s_80_8, s_80_11, s_80_12, s_80_15, s_80_16, r_80_16, s_80_19, s_80_22, s_80_32, s_80_33, s_80_34, s_80_37, s_80_47, s_80_48, s_80_51, s_80_52, s_80_53, s_80_54, s_80_57, r_80_57, s_80_60, s_80_63, s_80_73, s_80_74, s_80_77, s_80_78, s_80_81, r_80_81, s_80_84, s_80_85, s_80_88, s_80_89, s_80_90, r_80_90, s_80_93, s_80_94, s_80_97, s_80_100, jI_mul, jI_add, jI_tnc, jI_ixT, true_and, and_true, bZ_0, bZ_1, bZ_b, jI_nz, jI_div, jI_rem, jI_mod, Nat.add_zero, bI_if, not_false_iff, if_true, if_false, eq_self, n1]
          rw [NT_of hR hD1 hng hnd]
          exact F4 q q1 q2 q4 q5 _ (CI_note hG hC) PC.note
        · rw [hR]
          simp (disch := first | assumption | omega) only [s_192_0, s_192_1, s_192_2, s_192_3, s_192_4, s_192_5, r_192_5, rt_192_5_2, rt_192_5_0, rt_192_5_1, s_192_8, s_192_9, s_192_10, s_192_15, s_192_16, s_192_19, s_192_20, s_192_23, s_192_24, s_192_25, s_192_26, s_80_0, s_80_1, s_80_4, s_80_5, r_80_5, s_80_8, s_80_11, s_80_12, s_80_15, s_80_16, r_80_16, s_80_19, s_80_22, s_80_32, s_80_33, s_80_34, s_80_37, s_80_47, s_80_48, s_80_51, s_80_52, s_80_53, s_80_54, s_80_57, r_80_57, s_80_60, s_80_63, s_80_73, s_80_74, s_80_77, s_80_78, s_80_81, r_80_81, s_80_84, s_80_85, s_80_88, s_80_89, s_80_90, r_80_90, s_80_93, s_80_94, s_80_97, s_80_100, jI_mul, jI_add, jI_tnc, jI_ixT, true_and, and_true, bZ_0, bZ_1, bZ_b, jI_nz, jI_div, jI_rem, jI_mod, Nat.add_zero, bI_if, not_false_iff, if_true, if_false, eq_self]
          refine c_keep hG hC (fun τ t1 t2 t3 => ?_)
          have tR : LD τ 1 g ng nd nc = τ := t1.1.1
          have tO : OHc τ 1 ng oh := t1.1.2
          rw [MM_LD tR]
          simp (disch := first | assumption | omega) only [s_192_0, s_192_1, s_192_2, s_192_3, s_192_4, s_192_5, r_192_5, rt_192_5_2, rt_192_5_0, rt_192_5_1, s_192_8, s_192_9, s_192_10, s_192_15, s_192_16, s_192_19, s_192_20, s_192_23, s_192_24, s_192_25, s_192_26, s_80_0, s_80_1, s_80_4, s_80_5, r_80_5, s_80_8, s_80_11, s_80_12, s_80_15, s_80_16, r_80_16, s_80_19, s_80_22, s_80_32, s_80_33, s_80_34, s_80_37, s_80_47, s_80_48, s_80_51, s_80_52, s_80_53, s_80_54, s_80_57, r_80_57, s_80_60, s_80_63, s_80_73, s_80_74, s_80_77, s_80_78, s_80_81, r_80_81, s_80_84, s_80_85, s_80_88, s_80_89, s_80_90, r_80_90, s_80_93, s_80_94, s_80_97, s_80_100, jI_mul, jI_add, jI_tnc, jI_ixT, true_and, and_true, bZ_0, bZ_1, bZ_b, jI_nz, jI_div, jI_rem, jI_mod, Nat.add_zero, bI_if, not_false_iff, if_true, if_false, eq_self]
          refine c_addC hD1 hng hnd q5 b7 (fun τ' f1 => ?_)
          have e5 : cplS g nc (jI a) (jI b) 5 = jI (nc + 1) := gu_at
          simp (disch := first | assumption | omega) only [s_192_0, s_192_1, s_192_2, s_192_3, s_192_4, s_192_5, r_192_5, rt_192_5_2, rt_192_5_0, rt_192_5_1, s_192_8, s_192_9, s_192_10, s_192_15, s_192_16, s_192_19, s_192_20, s_192_23, s_192_24, s_192_25, s_192_26, s_80_0, s_80_1, s_80_4, s_80_5, r_80_5, s_80_8, s_80_11, s_80_12, s_80_15, s_80_16, r_80_16, s_80_19, s_80_22, s_80_32, s_80_33, s_80_34, s_80_37, s_80_47, s_80_48, s_80_51, s_80_52, s_80_53, s_80_54, s_80_57, r_80_57, s_80_60, s_80_63, s_80_73, s_80_74, s_80_77, s_80_78, s_80_81, r_80_81, s_80_84, s_80_85, s_80_88, s_80_89, s_80_90, r_80_90, s_80_93, s_80_94, s_80_97, s_80_100, jI_mul, jI_add, jI_tnc, jI_ixT, true_and, and_true, bZ_0, bZ_1, bZ_b, jI_nz, jI_div, jI_rem, jI_mod, Nat.add_zero, bI_if, not_false_iff, if_true, if_false, eq_self, LD_s6, LD_s7, LD_s8, LD_s9, LD_s10, LD_s11, LD_s12, LD_b0, LD_b1, LD_b2, LD_b3, LD_b4, LD_b5, LD_b6, LD_b7, LD_g1, LD_g2, LD_g3, LD_g4, LD_n0, LD_n1, LD_n2, LD_n3, LD_n4, LD_n5, LD_n6, LD_n7, LD_n8, LD_cp, LD_ac, LD_or, LD_oh, e5]
          have f2 : Fout 1 τ (LD τ' 1 (cplS g nc (jI a) (jI b)) ng nd (nc + 1)) := Fout.ld hng hnd f1.1
          exact HH a b ha hb rfl rfl q2 q4 q5 _ (CI_curF (s' := (cplS g nc (jI a) (jI b), oh, ng, nd, nc + 1, h)) (Gd_keep hG) t1 (RD.ld hng (f1.toOH hng tO)) f2) (t2.out f2)
    · rw [if_neg q1, hR]
      exact F1 (fun e => q1 e.2)
  · rw [if_neg q, hR]
    exact F1 (fun e => q e.1)
theorem w_repair {v : Int32} (hG : Gd ((g, oh, ng, nd, nc, h), H, sv, y0, d0, r)) (hC : CI σ ((g, oh, ng, nd, nc, h), H, sv, y0, d0, r)) (F1 : ¬ hs v ng → K (.inl (some (.int (jI 1)))) (MM Ln σ lo db))
    (F2 : ∀ st, st < ng → v = jI st → g (15 + 10 * st + 1) = jI 0 → ∀ σ', CI σ' ((g, oh, ng, nd, nc, h), H, sv, jI 3, jI st, r) → PC σ σ' → K (.inl (some (.int (jI 2)))) (MM Ln σ' lo db))
    (F3 : ∀ st, st < ng → v = jI st → ¬ g (15 + 10 * st + 1) = jI 0 → shS g nd (jI st) = jI 0 → ∀ σ', CI σ' ((g, oh, ng, nd, nc, h), H, sv, jI 4, jI st, r) → PC σ σ' → K (.inl (some (.int (jI 2)))) (MM Ln σ' lo db))
    (F4 : ∀ st, st < ng → v = jI st → ¬ g (15 + 10 * st + 1) = jI 0 → ¬ shS g nd (jI st) = jI 0 → g 6 + rpSum g nd st nd < jI 2 * g (15 + 10 * st + 1) → ∀ σ', CI σ' ((g, oh, ng, nd, nc, h), H, sv, jI 5, jI 2 * g (15 + 10 * st + 1) - g 6 - rpSum g nd st nd, r) → PC σ σ' → K (.inl (some (.int (jI 2)))) (MM Ln σ' lo db))
    (HH : ∀ st, st < ng → v = jI st → ¬ g (15 + 10 * st + 1) = jI 0 → ¬ shS g nd (jI st) = jI 0 → ¬ g 6 + rpSum g nd st nd < jI 2 * g (15 + 10 * st + 1) → ∀ σ', CI σ' ((repS g nd st, oh, ng, nd, nc, h), ((g, oh, ng, nd, nc, h) :: H).take 8, sv, y0, d0, r) → PC σ σ' → K (.inl (some (.int (jI 0)))) (MM Ln σ' (u2 lo 377 0 (repS g nd st 6).toInt64) db)) :
    Ev 193 (0, [.ref 0, .int v, .ref 377, .null], [], 0, 0, MM Ln σ lo db) K := by
  have hD1 := DI_1
  have hB : Cb g ng nd nc h := hG.1
  obtain ⟨hng, hnd, hnc, b4, b5, b6, b7, b8, hQ⟩ := hB
  have hR : LD σ 1 g ng nd nc = σ := hC.1.1
  have n1 : (jI 1 = jI 0) = False := jI_nz (by decide) (by decide)
  rw [MM_LD hR]
  simp (disch := first | assumption | omega) only [s_193_0, s_193_1, s_193_2, s_193_3, s_193_4, r_193_4, rt_193_4_2, rt_193_4_1, s_193_7, s_193_8, s_193_9, s_193_13, s_193_14, s_193_16, s_193_17, s_193_18, s_193_19, s_81_0, s_81_1, s_81_4, s_81_5, r_81_5, s_81_8, s_81_11, s_81_21, s_81_22, s_81_25, s_81_26, s_81_27, s_81_30, r_81_30, s_81_33, s_81_36, s_81_46, s_81_47, s_81_50, s_81_51, s_81_54, r_81_54, s_81_57, s_81_58, s_81_61, s_81_62, r_81_62, s_81_65, s_81_66, s_81_69, s_81_72, jI_mul, jI_add, jI_tnc, jI_ixT, true_and, and_true, bZ_0, bZ_1, bZ_b, jI_nz, jI_div, jI_rem, jI_mod, Nat.add_zero, bI_if, not_false_iff, if_true, if_false, eq_self, LD_s6, LD_s7, LD_s8, LD_s9, LD_s10, LD_s11, LD_s12, LD_b0, LD_b1, LD_b2, LD_b3, LD_b4, LD_b5, LD_b6, LD_b7, LD_g1, LD_g2, LD_g3, LD_g4, LD_n0, LD_n1, LD_n2, LD_n3, LD_n4, LD_n5, LD_n6, LD_n7, LD_n8, LD_cp, LD_ac, LD_or, LD_oh, c_hasG]
  by_cases q : hs v ng
  · obtain ⟨st, hst, rfl⟩ := hs_of q (by omega)
    rw [if_pos q]
    refine c_refR hD1 hng hnd b6 hQ hst (fun q3 => ?_) (fun q3 q4 => ?_) (fun q3 q4 q5 => ?_) (fun q3 q4 q5 => ?_)
    · simp (disch := first | assumption | omega) only [s_193_0, s_193_1, s_193_2, s_193_3, s_193_4, r_193_4, rt_193_4_2, rt_193_4_1, s_193_7, s_193_8, s_193_9, s_193_13, s_193_14, s_193_16, s_193_17, s_193_18, s_193_19, s_81_0, s_81_1, s_81_4, s_81_5, r_81_5, s_81_8, s_81_11, s_81_21, s_81_22, s_81_25, s_81_26, s_81_27, s_81_30, r_81_30, s_81_33, s_81_36, s_81_46, s_81_47, s_81_50, s_81_51, s_81_54, r_81_54, s_81_57, s_81_58, s_81_61, s_81_62, r_81_62, s_81_65, s_81_66, s_81_69, s_81_72, jI_mul, jI_add, jI_tnc, jI_ixT, true_and, and_true, bZ_0, bZ_1, bZ_b, jI_nz, jI_div, jI_rem, jI_mod, Nat.add_zero, bI_if, not_false_iff, if_true, if_false, eq_self, n1]
      rw [NT_of hR hD1 hng hnd]
      exact F2 st hst rfl q3 _ (CI_note hG hC) PC.note
    · simp (disch := first | assumption | omega) only [s_193_0, s_193_1, s_193_2, s_193_3, s_193_4, r_193_4, rt_193_4_2, rt_193_4_1, s_193_7, s_193_8, s_193_9, s_193_13, s_193_14, s_193_16, s_193_17, s_193_18, s_193_19, s_81_0, s_81_1, s_81_4, s_81_5, r_81_5, s_81_8, s_81_11, s_81_21, s_81_22, s_81_25, s_81_26, s_81_27, s_81_30, r_81_30, s_81_33, s_81_36, s_81_46, s_81_47, s_81_50, s_81_51, s_81_54, r_81_54, s_81_57, s_81_58, s_81_61, s_81_62, r_81_62, s_81_65, s_81_66, s_81_69, s_81_72, jI_mul, jI_add, jI_tnc, jI_ixT, true_and, and_true, bZ_0, bZ_1, bZ_b, jI_nz, jI_div, jI_rem, jI_mod, Nat.add_zero, bI_if, not_false_iff, if_true, if_false, eq_self, n1]
      rw [NT_of hR hD1 hng hnd]
      exact F3 st hst rfl q3 q4 _ (CI_note hG hC) PC.note
    · simp (disch := first | assumption | omega) only [s_193_0, s_193_1, s_193_2, s_193_3, s_193_4, r_193_4, rt_193_4_2, rt_193_4_1, s_193_7, s_193_8, s_193_9, s_193_13, s_193_14, s_193_16, s_193_17, s_193_18, s_193_19, s_81_0, s_81_1, s_81_4, s_81_5, r_81_5, s_81_8, s_81_11, s_81_21, s_81_22, s_81_25, s_81_26, s_81_27, s_81_30, r_81_30, s_81_33, s_81_36, s_81_46, s_81_47, s_81_50, s_81_51, s_81_54, r_81_54, s_81_57, s_81_58, s_81_61, s_81_62, r_81_62, s_81_65, s_81_66, s_81_69, s_81_72, jI_mul, jI_add, jI_tnc, jI_ixT, true_and, and_true, bZ_0, bZ_1, bZ_b, jI_nz, jI_div, jI_rem, jI_mod, Nat.add_zero, bI_if, not_false_iff, if_true, if_false, eq_self, n1]
      rw [NT_of hR hD1 hng hnd]
      exact F4 st hst rfl q3 q4 q5 _ (CI_note hG hC) PC.note
    · rw [hR]
      simp (disch := first | assumption | omega) only [s_193_0, s_193_1, s_193_2, s_193_3, s_193_4, r_193_4, rt_193_4_2, rt_193_4_1, s_193_7, s_193_8, s_193_9, s_193_13, s_193_14, s_193_16, s_193_17, s_193_18, s_193_19, s_81_0, s_81_1, s_81_4, s_81_5, r_81_5, s_81_8, s_81_11, s_81_21, s_81_22, s_81_25, s_81_26, s_81_27, s_81_30, r_81_30, s_81_33, s_81_36, s_81_46, s_81_47, s_81_50, s_81_51, s_81_54, r_81_54, s_81_57, s_81_58, s_81_61, s_81_62, r_81_62, s_81_65, s_81_66, s_81_69, s_81_72, jI_mul, jI_add, jI_tnc, jI_ixT, true_and, and_true, bZ_0, bZ_1, bZ_b, jI_nz, jI_div, jI_rem, jI_mod, Nat.add_zero, bI_if, not_false_iff, if_true, if_false, eq_self]
      refine c_keep hG hC (fun τ t1 t2 t3 => ?_)
      have tR : LD τ 1 g ng nd nc = τ := t1.1.1
      rw [MM_LD tR]
      simp (disch := first | assumption | omega) only [s_193_0, s_193_1, s_193_2, s_193_3, s_193_4, r_193_4, rt_193_4_2, rt_193_4_1, s_193_7, s_193_8, s_193_9, s_193_13, s_193_14, s_193_16, s_193_17, s_193_18, s_193_19, s_81_0, s_81_1, s_81_4, s_81_5, r_81_5, s_81_8, s_81_11, s_81_21, s_81_22, s_81_25, s_81_26, s_81_27, s_81_30, r_81_30, s_81_33, s_81_36, s_81_46, s_81_47, s_81_50, s_81_51, s_81_54, r_81_54, s_81_57, s_81_58, s_81_61, s_81_62, r_81_62, s_81_65, s_81_66, s_81_69, s_81_72, jI_mul, jI_add, jI_tnc, jI_ixT, true_and, and_true, bZ_0, bZ_1, bZ_b, jI_nz, jI_div, jI_rem, jI_mod, Nat.add_zero, bI_if, not_false_iff, if_true, if_false, eq_self]
      refine c_mend hD1 hng hnd b6 hQ hst ?_
      simp (disch := first | assumption | omega) only [s_193_0, s_193_1, s_193_2, s_193_3, s_193_4, r_193_4, rt_193_4_2, rt_193_4_1, s_193_7, s_193_8, s_193_9, s_193_13, s_193_14, s_193_16, s_193_17, s_193_18, s_193_19, s_81_0, s_81_1, s_81_4, s_81_5, r_81_5, s_81_8, s_81_11, s_81_21, s_81_22, s_81_25, s_81_26, s_81_27, s_81_30, r_81_30, s_81_33, s_81_36, s_81_46, s_81_47, s_81_50, s_81_51, s_81_54, r_81_54, s_81_57, s_81_58, s_81_61, s_81_62, r_81_62, s_81_65, s_81_66, s_81_69, s_81_72, jI_mul, jI_add, jI_tnc, jI_ixT, true_and, and_true, bZ_0, bZ_1, bZ_b, jI_nz, jI_div, jI_rem, jI_mod, Nat.add_zero, bI_if, not_false_iff, if_true, if_false, eq_self, LD_s6, LD_s7, LD_s8, LD_s9, LD_s10, LD_s11, LD_s12, LD_b0, LD_b1, LD_b2, LD_b3, LD_b4, LD_b5, LD_b6, LD_b7, LD_g1, LD_g2, LD_g3, LD_g4, LD_n0, LD_n1, LD_n2, LD_n3, LD_n4, LD_n5, LD_n6, LD_n7, LD_n8, LD_cp, LD_ac, LD_or, LD_oh]
      exact HH st hst rfl q3 q4 q5 _ (CI_ld (Gd_keep hG) t1) (t2.ld hng hnd)
  · rw [if_neg q, hR]
    exact F1 q
theorem w_pass {w : Int32} (hh : h < 1000000000) (hG : Gd ((g, oh, ng, nd, nc, h), H, sv, y0, d0, r)) (hC : CI σ ((g, oh, ng, nd, nc, h), H, sv, y0, d0, r)) (F1 : ¬ rng w 1 200 → K (.inl (some (.int (jI 1)))) (MM Ln σ lo db))
    (HH : ∀ n, 1 ≤ n → n ≤ 200 → w = jI n → ∀ σ', CI σ' (((hoursS oh ng nd nc h g n).1, oh, ng, nd, (hoursS oh ng nd nc h g n).2, h + n), ((g, oh, ng, nd, nc, h) :: H).take 8, sv, y0, d0, r) → PC σ σ' → K (.inl (some (.int (jI 0)))) (MM Ln σ' (u2 lo 377 0 ((hoursS oh ng nd nc h g n).1 9 - g 9).toInt64) db)) :
    Ev 194 (0, [.ref 0, .int w, .ref 377, .null], [], 0, 0, MM Ln σ lo db) K := by
  have hD1 := DI_1
  have hB : Cb g ng nd nc h := hG.1
  have hng := hB.1
  have hnd := hB.2.1
  simp (disch := first | assumption | omega) only [s_194_0, s_194_1, s_194_2, s_194_3, s_194_4, r_194_4, rt_194_4_0, s_194_7, s_194_8, s_194_9, s_194_13, s_194_14, s_194_15, s_194_16, s_82_0, s_82_1, r_82_1, s_82_4, s_82_7, s_82_17, s_82_18, s_82_21, s_82_22, s_82_25, r_82_25, s_82_28, s_82_29, s_82_32, s_82_33, r_82_33, s_82_36, jI_mul, jI_add, jI_tnc, jI_ixT, true_and, and_true, bZ_0, bZ_1, bZ_b, jI_nz, jI_div, jI_rem, jI_mod, Nat.add_zero, bI_if, not_false_iff, if_true, if_false, eq_self, c_span]
  by_cases q : rng w 1 200
  · rw [if_pos q]
    obtain ⟨n, rfl, n1, n2⟩ := rng_of q (by decide) (by decide)
    refine c_keep hG hC (fun τ t1 t2 t3 => ?_)
    have tR : LD τ 1 g ng nd nc = τ := t1.1.1
    have tO : OHc τ 1 ng oh := t1.1.2
    rw [MM_LD tR]
    simp (disch := first | assumption | omega) only [s_194_0, s_194_1, s_194_2, s_194_3, s_194_4, r_194_4, rt_194_4_0, s_194_7, s_194_8, s_194_9, s_194_13, s_194_14, s_194_15, s_194_16, s_82_0, s_82_1, r_82_1, s_82_4, s_82_7, s_82_17, s_82_18, s_82_21, s_82_22, s_82_25, r_82_25, s_82_28, s_82_29, s_82_32, s_82_33, r_82_33, s_82_36, jI_mul, jI_add, jI_tnc, jI_ixT, true_and, and_true, bZ_0, bZ_1, bZ_b, jI_nz, jI_div, jI_rem, jI_mod, Nat.add_zero, bI_if, not_false_iff, if_true, if_false, eq_self]
    refine c_hours hD1 n2 hB (by omega) tO (fun τ' f1 => ?_)
    simp (disch := first | assumption | omega) only [s_194_0, s_194_1, s_194_2, s_194_3, s_194_4, r_194_4, rt_194_4_0, s_194_7, s_194_8, s_194_9, s_194_13, s_194_14, s_194_15, s_194_16, s_82_0, s_82_1, r_82_1, s_82_4, s_82_7, s_82_17, s_82_18, s_82_21, s_82_22, s_82_25, r_82_25, s_82_28, s_82_29, s_82_32, s_82_33, r_82_33, s_82_36, jI_mul, jI_add, jI_tnc, jI_ixT, true_and, and_true, bZ_0, bZ_1, bZ_b, jI_nz, jI_div, jI_rem, jI_mod, Nat.add_zero, bI_if, not_false_iff, if_true, if_false, eq_self]
    have f2 : Fout 1 τ (LD τ' 1 (hoursS oh ng nd nc h g n).1 ng nd (hoursS oh ng nd nc h g n).2) := Fout.ld hng hnd f1.1
    exact HH n n1 n2 rfl _ (CI_curF (s' := ((hoursS oh ng nd nc h g n).1, oh, ng, nd, (hoursS oh ng nd nc h g n).2, h + n)) (Gd_keep hG) t1 (RD.ld hng (f1.toOH hng tO)) f2) (t2.out f2)
  · rw [if_neg q]
    exact F1 q
end
