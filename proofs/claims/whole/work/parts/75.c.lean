/-! THE CLASS: questions, as the law calls them -/
set_option maxRecDepth 16384
section
variable {K : Ou → Me → Prop} {Ln : Nat} {σ σ' : Nat → Nat → Int32} {g : Gr} {lo : Nat → Nat → Int64} {db : Nat → Nat → UInt64} {μ : Me} {oh : Nat → Nat → Bool} {o ng nd nc h i : Nat} {H : List Sy} {sv : Option Sy} {y0 d0 : Int32} {r : (Nat → Nat) × Nat × Int32}
theorem w_gateOf {v w : Int32} (hh : h < 1000000000) (hG : Gd ((g, oh, ng, nd, nc, h), H, sv, y0, d0, r)) (hC : CI σ ((g, oh, ng, nd, nc, h), H, sv, y0, d0, r)) (F1 : ¬ hs v ng → K (.inl (some (.int (jI 1)))) (MM Ln σ lo db))
    (F2 : hs v ng → ¬ rng w 0 6 → K (.inl (some (.int (jI 2)))) (MM Ln σ lo db))
    (HH : ∀ k n, k < ng → v = jI k → n ≤ 6 → w = jI n → K (.inl (some (.int (jI 0)))) (MM Ln σ (u2 lo 377 0 (gtS g oh nd h k n).toInt64) db)) :
    Ev 195 (0, [.ref 0, .int v, .int w, .ref 377, .null], [], 0, 0, MM Ln σ lo db) K := by
  have hD1 := DI_1
  have hB : Cb g ng nd nc h := hG.1
  obtain ⟨hng, hnd, hnc, b4, b5, b6, b7, b8, hQ⟩ := hB
  have hR : LD σ 1 g ng nd nc = σ := hC.1.1
  have hO : OHc σ 1 ng oh := hC.1.2
  rw [MM_LD hR]
  simp (disch := first | assumption | omega) only [s_195_0, s_195_1, s_195_2, s_195_3, s_195_4, s_195_5, r_195_5, rt_195_5_2, rt_195_5_0, s_195_8, s_195_9, s_195_10, s_195_15, s_195_16, s_195_19, s_195_20, s_195_21, s_195_22, s_83_0, s_83_1, s_83_4, s_83_5, r_83_5, s_83_8, s_83_11, s_83_21, s_83_22, s_83_23, s_83_25, r_83_25, s_83_28, s_83_31, s_83_41, s_83_42, s_83_45, s_83_46, s_83_47, r_83_47, s_83_50, jI_mul, jI_add, jI_tnc, jI_ixT, true_and, and_true, bZ_0, bZ_1, bZ_b, jI_nz, jI_div, jI_rem, jI_mod, Nat.add_zero, bI_if, not_false_iff, if_true, if_false, eq_self, c_within, LD_s6, LD_s7, LD_s8, LD_s9, LD_s10, LD_s11, LD_s12, LD_b0, LD_b1, LD_b2, LD_b3, LD_b4, LD_b5, LD_b6, LD_b7, LD_g1, LD_g2, LD_g3, LD_g4, LD_n0, LD_n1, LD_n2, LD_n3, LD_n4, LD_n5, LD_n6, LD_n7, LD_n8, LD_cp, LD_ac, LD_or, LD_oh, c_hasG]
  by_cases q : hs v ng
  · obtain ⟨k, hk, rfl⟩ := hs_of q (by omega)
    rw [if_pos q]
    by_cases q1 : rng w 0 6
    · rw [if_pos q1]
      obtain ⟨n, rfl, n0, n1⟩ := rng_of q1 (by decide) (by decide)
      refine (c_gateNum hD1 hng hnd b4 b6 (by omega) hO hk n1).mpr ?_
      simp (disch := first | assumption | omega) only [s_195_0, s_195_1, s_195_2, s_195_3, s_195_4, s_195_5, r_195_5, rt_195_5_2, rt_195_5_0, s_195_8, s_195_9, s_195_10, s_195_15, s_195_16, s_195_19, s_195_20, s_195_21, s_195_22, s_83_0, s_83_1, s_83_4, s_83_5, r_83_5, s_83_8, s_83_11, s_83_21, s_83_22, s_83_23, s_83_25, r_83_25, s_83_28, s_83_31, s_83_41, s_83_42, s_83_45, s_83_46, s_83_47, r_83_47, s_83_50, jI_mul, jI_add, jI_tnc, jI_ixT, true_and, and_true, bZ_0, bZ_1, bZ_b, jI_nz, jI_div, jI_rem, jI_mod, Nat.add_zero, bI_if, not_false_iff, if_true, if_false, eq_self]
      rw [hR]
      exact HH k n hk rfl n1 rfl
    · rw [if_neg q1, hR]
      exact F2 q q1
  · rw [if_neg q, hR]
    exact F1 q
theorem w_nextOpen {v : Int32} (hh : h < 1000000000) (hG : Gd ((g, oh, ng, nd, nc, h), H, sv, y0, d0, r)) (hC : CI σ ((g, oh, ng, nd, nc, h), H, sv, y0, d0, r)) (F1 : ¬ hs v ng → K (.inl (some (.int (jI 1)))) (MM Ln σ lo db))
    (F2 : ∀ k, k < ng → v = jI k → (∀ n, n < 168 → ¬ oh k ((h + n) % 168) = true) → K (.inl (some (.int (jI 2)))) (MM Ln σ lo db))
    (HH : ∀ k n, k < ng → v = jI k → n < 168 → oh k ((h + n) % 168) = true → (∀ j, j < n → ¬ oh k ((h + j) % 168) = true) → K (.inl (some (.int (jI 0)))) (MM Ln σ (u2 lo 377 0 (jI (h + n)).toInt64) db)) :
    Ev 196 (0, [.ref 0, .int v, .ref 377, .null], [], 0, 0, MM Ln σ lo db) K := by
  have hD1 := DI_1
  have hB : Cb g ng nd nc h := hG.1
  obtain ⟨hng, hnd, hnc, b4, b5, b6, b7, b8, hQ⟩ := hB
  have hR : LD σ 1 g ng nd nc = σ := hC.1.1
  have hO : OHc σ 1 ng oh := hC.1.2
  rw [MM_LD hR]
  simp (disch := first | assumption | omega) only [s_196_0, s_196_1, s_196_2, s_196_3, s_196_4, r_196_4, rt_196_4_2, rt_196_4_3, s_196_7, s_196_8, s_196_9, s_196_13, s_196_14, s_196_16, s_196_17, s_196_18, s_196_19, s_84_0, s_84_1, s_84_4, s_84_5, r_84_5, s_84_8, s_84_11, s_84_21, s_84_22, s_84_25, s_84_28, s_84_29, s_84_30, s_84_31, s_84_34, s_84_37, r_84_37, s_84_40, s_84_41, s_84_42, s_84_43, s_84_46, s_84_56, s_84_57, s_84_60, s_84_63, s_84_64, s_84_65, jI_mul, jI_add, jI_tnc, jI_ixT, true_and, and_true, bZ_0, bZ_1, bZ_b, jI_nz, jI_div, jI_rem, jI_mod, Nat.add_zero, bI_if, not_false_iff, if_true, if_false, eq_self, LD_s6, LD_s7, LD_s8, LD_s9, LD_s10, LD_s11, LD_s12, LD_b0, LD_b1, LD_b2, LD_b3, LD_b4, LD_b5, LD_b6, LD_b7, LD_g1, LD_g2, LD_g3, LD_g4, LD_n0, LD_n1, LD_n2, LD_n3, LD_n4, LD_n5, LD_n6, LD_n7, LD_n8, LD_cp, LD_ac, LD_or, LD_oh, c_hasG]
  by_cases q : hs v ng
  · obtain ⟨k, hk, rfl⟩ := hs_of q (by omega)
    rw [if_pos q]
    simp (disch := first | assumption | omega) only [s_196_0, s_196_1, s_196_2, s_196_3, s_196_4, r_196_4, rt_196_4_2, rt_196_4_3, s_196_7, s_196_8, s_196_9, s_196_13, s_196_14, s_196_16, s_196_17, s_196_18, s_196_19, s_84_0, s_84_1, s_84_4, s_84_5, r_84_5, s_84_8, s_84_11, s_84_21, s_84_22, s_84_25, s_84_28, s_84_29, s_84_30, s_84_31, s_84_34, s_84_37, r_84_37, s_84_40, s_84_41, s_84_42, s_84_43, s_84_46, s_84_56, s_84_57, s_84_60, s_84_63, s_84_64, s_84_65, jI_mul, jI_add, jI_tnc, jI_ixT, true_and, and_true, bZ_0, bZ_1, bZ_b, jI_nz, jI_div, jI_rem, jI_mod, Nat.add_zero, bI_if, not_false_iff, if_true, if_false, eq_self, LD_s6, LD_s7, LD_s8, LD_s9, LD_s10, LD_s11, LD_s12, LD_b0, LD_b1, LD_b2, LD_b3, LD_b4, LD_b5, LD_b6, LD_b7, LD_g1, LD_g2, LD_g3, LD_g4, LD_n0, LD_n1, LD_n2, LD_n3, LD_n4, LD_n5, LD_n6, LD_n7, LD_n8, LD_cp, LD_ac, LD_or, LD_oh, b4]
    refine c_until hD1 hng hnd hk hO (by omega) (fun hno => ?_) (fun n hn ho hno => ?_)
    · simp (disch := first | assumption | omega) only [s_196_0, s_196_1, s_196_2, s_196_3, s_196_4, r_196_4, rt_196_4_2, rt_196_4_3, s_196_7, s_196_8, s_196_9, s_196_13, s_196_14, s_196_16, s_196_17, s_196_18, s_196_19, s_84_0, s_84_1, s_84_4, s_84_5, r_84_5, s_84_8, s_84_11, s_84_21, s_84_22, s_84_25, s_84_28, s_84_29, s_84_30, s_84_31, s_84_34, s_84_37, r_84_37, s_84_40, s_84_41, s_84_42, s_84_43, s_84_46, s_84_56, s_84_57, s_84_60, s_84_63, s_84_64, s_84_65, jI_mul, jI_add, jI_tnc, jI_ixT, true_and, and_true, bZ_0, bZ_1, bZ_b, jI_nz, jI_div, jI_rem, jI_mod, Nat.add_zero, bI_if, not_false_iff, if_true, if_false, eq_self, if_true]
      rw [hR]
      exact F2 k hk rfl hno
    · have nm : (jI n = jm1) = False := eq_false (jI_ne1 (by omega))
      simp (disch := first | assumption | omega) only [s_196_0, s_196_1, s_196_2, s_196_3, s_196_4, r_196_4, rt_196_4_2, rt_196_4_3, s_196_7, s_196_8, s_196_9, s_196_13, s_196_14, s_196_16, s_196_17, s_196_18, s_196_19, s_84_0, s_84_1, s_84_4, s_84_5, r_84_5, s_84_8, s_84_11, s_84_21, s_84_22, s_84_25, s_84_28, s_84_29, s_84_30, s_84_31, s_84_34, s_84_37, r_84_37, s_84_40, s_84_41, s_84_42, s_84_43, s_84_46, s_84_56, s_84_57, s_84_60, s_84_63, s_84_64, s_84_65, jI_mul, jI_add, jI_tnc, jI_ixT, true_and, and_true, bZ_0, bZ_1, bZ_b, jI_nz, jI_div, jI_rem, jI_mod, Nat.add_zero, bI_if, not_false_iff, if_true, if_false, eq_self, nm, if_false, LD_s6, LD_s7, LD_s8, LD_s9, LD_s10, LD_s11, LD_s12, LD_b0, LD_b1, LD_b2, LD_b3, LD_b4, LD_b5, LD_b6, LD_b7, LD_g1, LD_g2, LD_g3, LD_g4, LD_n0, LD_n1, LD_n2, LD_n3, LD_n4, LD_n5, LD_n6, LD_n7, LD_n8, LD_cp, LD_ac, LD_or, LD_oh, b4]
      rw [hR]
      exact HH k n hk rfl hn ho hno
  · rw [if_neg q, hR]
    exact F1 q
theorem w_gardenOf {v w : Int32} (hG : Gd ((g, oh, ng, nd, nc, h), H, sv, y0, d0, r)) (hC : CI σ ((g, oh, ng, nd, nc, h), H, sv, y0, d0, r)) (F1 : ¬ hs v nd → K (.inl (some (.int (jI 1)))) (MM Ln σ lo db))
    (F2 : hs v nd → ¬ rng w 0 8 → K (.inl (some (.int (jI 2)))) (MM Ln σ lo db))
    (HH : ∀ k n, k < nd → v = jI k → n < 9 → w = jI n → K (.inl (some (.int (jI 0)))) (MM Ln σ (u2 lo 377 0 (g (75 + 9 * k + n)).toInt64) db)) :
    Ev 197 (0, [.ref 0, .int v, .int w, .ref 377, .null], [], 0, 0, MM Ln σ lo db) K := by
  have hD1 := DI_1
  have hB : Cb g ng nd nc h := hG.1
  obtain ⟨hng, hnd, hnc, b4, b5, b6, b7, b8, hQ⟩ := hB
  have hR : LD σ 1 g ng nd nc = σ := hC.1.1
  rw [MM_LD hR]
  simp (disch := first | assumption | omega) only [s_197_0, s_197_1, s_197_2, s_197_3, s_197_4, s_197_5, r_197_5, rt_197_5_2, rt_197_5_0, s_197_8, s_197_9, s_197_10, s_197_15, s_197_16, s_197_19, s_197_20, s_197_21, s_197_22, s_85_0, s_85_1, s_85_4, s_85_5, r_85_5, s_85_8, s_85_11, s_85_21, s_85_22, s_85_23, s_85_25, r_85_25, s_85_28, s_85_31, s_85_41, s_85_42, s_85_45, s_85_48, s_85_49, s_85_50, s_85_51, r_85_51, s_85_54, jI_mul, jI_add, jI_tnc, jI_ixT, true_and, and_true, bZ_0, bZ_1, bZ_b, jI_nz, jI_div, jI_rem, jI_mod, Nat.add_zero, bI_if, not_false_iff, if_true, if_false, eq_self, c_within, LD_s6, LD_s7, LD_s8, LD_s9, LD_s10, LD_s11, LD_s12, LD_b0, LD_b1, LD_b2, LD_b3, LD_b4, LD_b5, LD_b6, LD_b7, LD_g1, LD_g2, LD_g3, LD_g4, LD_n0, LD_n1, LD_n2, LD_n3, LD_n4, LD_n5, LD_n6, LD_n7, LD_n8, LD_cp, LD_ac, LD_or, LD_oh, c_hasN]
  by_cases q : hs v nd
  · obtain ⟨k, hk, rfl⟩ := hs_of q (by omega)
    rw [if_pos q]
    by_cases q1 : rng w 0 8
    · rw [if_pos q1]
      obtain ⟨n, rfl, n0, n1⟩ := rng_of q1 (by decide) (by decide)
      simp (disch := first | assumption | omega) only [s_197_0, s_197_1, s_197_2, s_197_3, s_197_4, s_197_5, r_197_5, rt_197_5_2, rt_197_5_0, s_197_8, s_197_9, s_197_10, s_197_15, s_197_16, s_197_19, s_197_20, s_197_21, s_197_22, s_85_0, s_85_1, s_85_4, s_85_5, r_85_5, s_85_8, s_85_11, s_85_21, s_85_22, s_85_23, s_85_25, r_85_25, s_85_28, s_85_31, s_85_41, s_85_42, s_85_45, s_85_48, s_85_49, s_85_50, s_85_51, r_85_51, s_85_54, jI_mul, jI_add, jI_tnc, jI_ixT, true_and, and_true, bZ_0, bZ_1, bZ_b, jI_nz, jI_div, jI_rem, jI_mod, Nat.add_zero, bI_if, not_false_iff, if_true, if_false, eq_self]
      refine (c_gardenNum hD1 hng hQ hk hnd (by omega)).mpr ?_
      simp (disch := first | assumption | omega) only [s_197_0, s_197_1, s_197_2, s_197_3, s_197_4, s_197_5, r_197_5, rt_197_5_2, rt_197_5_0, s_197_8, s_197_9, s_197_10, s_197_15, s_197_16, s_197_19, s_197_20, s_197_21, s_197_22, s_85_0, s_85_1, s_85_4, s_85_5, r_85_5, s_85_8, s_85_11, s_85_21, s_85_22, s_85_23, s_85_25, r_85_25, s_85_28, s_85_31, s_85_41, s_85_42, s_85_45, s_85_48, s_85_49, s_85_50, s_85_51, r_85_51, s_85_54, jI_mul, jI_add, jI_tnc, jI_ixT, true_and, and_true, bZ_0, bZ_1, bZ_b, jI_nz, jI_div, jI_rem, jI_mod, Nat.add_zero, bI_if, not_false_iff, if_true, if_false, eq_self]
      rw [hR]
      exact HH k n hk rfl (by omega) rfl
    · rw [if_neg q1, hR]
      exact F2 q q1
  · rw [if_neg q, hR]
    exact F1 q
theorem w_placeAgain {v : Int32} (hG : Gd ((g, oh, ng, nd, nc, h), H, sv, y0, d0, r)) (hC : CI σ ((g, oh, ng, nd, nc, h), H, sv, y0, d0, r)) (F1 : ¬ hs v nd → K (.inl (some (.int (jI 1)))) (MM Ln σ lo db))
    (HH : ∀ k, k < nd → v = jI k → K (.inl (some (.int (jI 0)))) (MM Ln σ (u2 lo 377 0 (jI (cntS (fun i => decide (g (75 + 9 * i) = g (75 + 9 * k) ∧ ahd g i k)) nd)).toInt64) db)) :
    Ev 199 (0, [.ref 0, .int v, .ref 377, .null], [], 0, 0, MM Ln σ lo db) K := by
  have hD1 := DI_1
  have hB : Cb g ng nd nc h := hG.1
  obtain ⟨hng, hnd, hnc, b4, b5, b6, b7, b8, hQ⟩ := hB
  have hR : LD σ 1 g ng nd nc = σ := hC.1.1
  rw [MM_LD hR]
  simp (disch := first | assumption | omega) only [s_199_0, s_199_1, s_199_2, s_199_3, s_199_4, r_199_4, rt_199_4_2, s_199_7, s_199_8, s_199_9, s_199_13, s_199_14, s_199_15, s_199_16, s_87_0, s_87_1, s_87_4, s_87_5, r_87_5, s_87_8, s_87_11, s_87_21, s_87_22, s_87_25, s_87_26, s_87_29, s_87_32, s_87_33, s_87_34, r_87_34, s_87_37, jI_mul, jI_add, jI_tnc, jI_ixT, true_and, and_true, bZ_0, bZ_1, bZ_b, jI_nz, jI_div, jI_rem, jI_mod, Nat.add_zero, bI_if, not_false_iff, if_true, if_false, eq_self, LD_s6, LD_s7, LD_s8, LD_s9, LD_s10, LD_s11, LD_s12, LD_b0, LD_b1, LD_b2, LD_b3, LD_b4, LD_b5, LD_b6, LD_b7, LD_g1, LD_g2, LD_g3, LD_g4, LD_n0, LD_n1, LD_n2, LD_n3, LD_n4, LD_n5, LD_n6, LD_n7, LD_n8, LD_cp, LD_ac, LD_or, LD_oh, c_hasN]
  by_cases q : hs v nd
  · obtain ⟨k, hk, rfl⟩ := hs_of q (by omega)
    rw [if_pos q]
    try simp (disch := first | assumption | omega) only [s_199_0, s_199_1, s_199_2, s_199_3, s_199_4, r_199_4, rt_199_4_2, s_199_7, s_199_8, s_199_9, s_199_13, s_199_14, s_199_15, s_199_16, s_87_0, s_87_1, s_87_4, s_87_5, r_87_5, s_87_8, s_87_11, s_87_21, s_87_22, s_87_25, s_87_26, s_87_29, s_87_32, s_87_33, s_87_34, r_87_34, s_87_37, jI_mul, jI_add, jI_tnc, jI_ixT, true_and, and_true, bZ_0, bZ_1, bZ_b, jI_nz, jI_div, jI_rem, jI_mod, Nat.add_zero, bI_if, not_false_iff, if_true, if_false, eq_self]
    refine (c_countAhead hD1 hng hnd b6 hk).mpr ?_
    simp (disch := first | assumption | omega) only [s_199_0, s_199_1, s_199_2, s_199_3, s_199_4, r_199_4, rt_199_4_2, s_199_7, s_199_8, s_199_9, s_199_13, s_199_14, s_199_15, s_199_16, s_87_0, s_87_1, s_87_4, s_87_5, r_87_5, s_87_8, s_87_11, s_87_21, s_87_22, s_87_25, s_87_26, s_87_29, s_87_32, s_87_33, s_87_34, r_87_34, s_87_37, jI_mul, jI_add, jI_tnc, jI_ixT, true_and, and_true, bZ_0, bZ_1, bZ_b, jI_nz, jI_div, jI_rem, jI_mod, Nat.add_zero, bI_if, not_false_iff, if_true, if_false, eq_self]
    rw [hR]
    exact HH k hk rfl
  · rw [if_neg q, hR]
    exact F1 q
theorem hs_c {v : Int32} {n : Nat} (hn : n ≤ 12) : hs v n ↔ (¬ v < jI 0 ∧ ¬ jI n ≤ v) := by
  unfold hs
  rw [Int32.lt_iff_toInt_lt, Int32.le_iff_toInt_le, jI_toInt (by decide), jI_toInt (by omega)]
  omega
theorem w_complaint {v : Int32} {p : Prop} [Decidable p] (hG : Gd ((g, oh, ng, nd, nc, h), H, sv, y0, d0, r)) (hC : CI σ ((g, oh, ng, nd, nc, h), H, sv, y0, d0, r)) (F1 : ¬ hs v nc → K (.inl (some (.int (jI 1)))) (MM Ln σ lo db))
    (HH : ∀ k, k < nc → v = jI k → K (.inl (some (.int (jI 0)))) (MM Ln σ (u2 lo 377 0 (if p then g (184 + 2 * k) else g (183 + 2 * k)).toInt64) db)) :
    Ev 200 (0, [.ref 0, .int v, .int (bI p), .ref 377, .null], [], 0, 0, MM Ln σ lo db) K := by
  have hD1 := DI_1
  have hB : Cb g ng nd nc h := hG.1
  obtain ⟨hng, hnd, hnc, b4, b5, b6, b7, b8, hQ⟩ := hB
  have hR : LD σ 1 g ng nd nc = σ := hC.1.1
  by_cases q : hs v nc
  · obtain ⟨k, hk, rfl⟩ := hs_of q (by omega)
    have HH := HH k hk rfl
    rw [MM_LD hR] at HH ⊢
    have n0 : (jI k < jI 0) = False := eq_false (by rw [jI_lt (by omega) (by omega)]; omega)
    have n1 : (jI nc ≤ jI k) = False := eq_false (by rw [jI_le (by omega) (by omega)]; omega)
    simp (disch := first | assumption | omega) only [s_200_0, s_200_1, s_200_2, s_200_3, s_200_4, s_200_5, r_200_5, rt_200_5_3, s_200_8, s_200_9, s_200_10, s_200_15, s_200_16, s_200_17, s_200_18, s_88_0, s_88_1, s_88_4, s_88_5, s_88_6, s_88_9, s_88_12, s_88_15, s_88_25, s_88_26, s_88_29, s_88_30, s_88_33, s_88_36, s_88_37, s_88_38, s_88_41, s_88_42, s_88_45, s_88_48, s_88_49, s_88_50, jI_mul, jI_add, jI_tnc, jI_ixT, true_and, and_true, bZ_0, bZ_1, bZ_b, jI_nz, jI_div, jI_rem, jI_mod, Nat.add_zero, bI_if, not_false_iff, if_true, if_false, eq_self, LD_s6, LD_s7, LD_s8, LD_s9, LD_s10, LD_s11, LD_s12, LD_b0, LD_b1, LD_b2, LD_b3, LD_b4, LD_b5, LD_b6, LD_b7, LD_g1, LD_g2, LD_g3, LD_g4, LD_n0, LD_n1, LD_n2, LD_n3, LD_n4, LD_n5, LD_n6, LD_n7, LD_n8, LD_cp, LD_ac, LD_or, LD_oh, b7, n0, n1, if_false, jI_lt, jI_le]
    by_cases hp : p
    · rw [if_pos hp] at HH
      simp only [hp, if_true]
      rw [if_pos hk]
      exact HH
    · rw [if_neg hp] at HH
      simp only [hp, if_false]
      rw [if_pos hk]
      exact HH
  · have q' := fun e => q ((hs_c (by omega)).mpr e)
    rw [MM_LD hR]
    by_cases n0 : v < jI 0
    · simp (disch := first | assumption | omega) only [s_200_0, s_200_1, s_200_2, s_200_3, s_200_4, s_200_5, r_200_5, rt_200_5_3, s_200_8, s_200_9, s_200_10, s_200_15, s_200_16, s_200_17, s_200_18, s_88_0, s_88_1, s_88_4, s_88_5, s_88_6, s_88_9, s_88_12, s_88_15, s_88_25, s_88_26, s_88_29, s_88_30, s_88_33, s_88_36, s_88_37, s_88_38, s_88_41, s_88_42, s_88_45, s_88_48, s_88_49, s_88_50, jI_mul, jI_add, jI_tnc, jI_ixT, true_and, and_true, bZ_0, bZ_1, bZ_b, jI_nz, jI_div, jI_rem, jI_mod, Nat.add_zero, bI_if, not_false_iff, if_true, if_false, eq_self, n0, if_true]
      rw [hR]
      exact F1 q
    · have n1 : jI nc ≤ v := by
        apply Decidable.byContradiction
        exact fun e => q' ⟨n0, e⟩
      have n2 : (v < jI nc) = False := eq_false (Int32.not_lt.mpr n1)
      simp (disch := first | assumption | omega) only [s_200_0, s_200_1, s_200_2, s_200_3, s_200_4, s_200_5, r_200_5, rt_200_5_3, s_200_8, s_200_9, s_200_10, s_200_15, s_200_16, s_200_17, s_200_18, s_88_0, s_88_1, s_88_4, s_88_5, s_88_6, s_88_9, s_88_12, s_88_15, s_88_25, s_88_26, s_88_29, s_88_30, s_88_33, s_88_36, s_88_37, s_88_38, s_88_41, s_88_42, s_88_45, s_88_48, s_88_49, s_88_50, jI_mul, jI_add, jI_tnc, jI_ixT, true_and, and_true, bZ_0, bZ_1, bZ_b, jI_nz, jI_div, jI_rem, jI_mod, Nat.add_zero, bI_if, not_false_iff, if_true, if_false, eq_self, LD_s6, LD_s7, LD_s8, LD_s9, LD_s10, LD_s11, LD_s12, LD_b0, LD_b1, LD_b2, LD_b3, LD_b4, LD_b5, LD_b6, LD_b7, LD_g1, LD_g2, LD_g3, LD_g4, LD_n0, LD_n1, LD_n2, LD_n3, LD_n4, LD_n5, LD_n6, LD_n7, LD_n8, LD_cp, LD_ac, LD_or, LD_oh, b7, n0, n1, n2, if_true, if_false]
      rw [hR]
      exact F1 q
theorem w_sign {v : Int32} (hG : Gd ((g, oh, ng, nd, nc, h), H, sv, y0, d0, r)) (hC : CI σ ((g, oh, ng, nd, nc, h), H, sv, y0, d0, r)) (F1 : ¬ hs v nd → K (.inl (some (.int (jI 1)))) (MM Ln σ lo db))
    (HH : ∀ k, k < nd → v = jI k → K (.inl (some (.int (jI 0)))) (MM Ln σ (u2 lo 377 0 (if jI 60 ≤ g (75 + 9 * k + 4) then jI 100 else if jI 0 < g (75 + 9 * k + 4) then jI 116 else jI 119).toInt64) db)) :
    Ev 201 (0, [.ref 0, .int v, .ref 377, .null], [], 0, 0, MM Ln σ lo db) K := by
  have hD1 := DI_1
  have hB : Cb g ng nd nc h := hG.1
  obtain ⟨hng, hnd, hnc, b4, b5, b6, b7, b8, hQ⟩ := hB
  have hR : LD σ 1 g ng nd nc = σ := hC.1.1
  have c2 : vp_nar .char (jI 100) = jI 100 := by decide +kernel
  have c3 : vp_nar .char (jI 116) = jI 116 := by decide +kernel
  have c4 : vp_nar .char (jI 119) = jI 119 := by decide +kernel
  rw [MM_LD hR]
  simp (disch := first | assumption | omega) only [s_201_0, s_201_1, s_201_2, s_201_3, s_201_4, r_201_4, rt_201_4_2, s_201_7, s_201_8, s_201_9, s_201_13, s_201_14, s_201_15, s_201_16, s_89_0, s_89_1, s_89_4, s_89_5, r_89_5, s_89_8, s_89_11, s_89_21, s_89_22, s_89_25, s_89_28, s_89_29, s_89_30, s_89_33, s_89_34, s_89_35, s_89_37, s_89_40, s_89_42, s_89_43, s_89_44, s_89_47, s_89_49, s_89_52, s_89_54, jI_mul, jI_add, jI_tnc, jI_ixT, true_and, and_true, bZ_0, bZ_1, bZ_b, jI_nz, jI_div, jI_rem, jI_mod, Nat.add_zero, bI_if, not_false_iff, if_true, if_false, eq_self, LD_s6, LD_s7, LD_s8, LD_s9, LD_s10, LD_s11, LD_s12, LD_b0, LD_b1, LD_b2, LD_b3, LD_b4, LD_b5, LD_b6, LD_b7, LD_g1, LD_g2, LD_g3, LD_g4, LD_n0, LD_n1, LD_n2, LD_n3, LD_n4, LD_n5, LD_n6, LD_n7, LD_n8, LD_cp, LD_ac, LD_or, LD_oh, c_hasN]
  by_cases q : hs v nd
  · obtain ⟨k, hk, rfl⟩ := hs_of q (by omega)
    rw [if_pos q]
    have HH := HH k hk rfl
    simp (disch := first | assumption | omega) only [s_201_0, s_201_1, s_201_2, s_201_3, s_201_4, r_201_4, rt_201_4_2, s_201_7, s_201_8, s_201_9, s_201_13, s_201_14, s_201_15, s_201_16, s_89_0, s_89_1, s_89_4, s_89_5, r_89_5, s_89_8, s_89_11, s_89_21, s_89_22, s_89_25, s_89_28, s_89_29, s_89_30, s_89_33, s_89_34, s_89_35, s_89_37, s_89_40, s_89_42, s_89_43, s_89_44, s_89_47, s_89_49, s_89_52, s_89_54, jI_mul, jI_add, jI_tnc, jI_ixT, true_and, and_true, bZ_0, bZ_1, bZ_b, jI_nz, jI_div, jI_rem, jI_mod, Nat.add_zero, bI_if, not_false_iff, if_true, if_false, eq_self, LD_s6, LD_s7, LD_s8, LD_s9, LD_s10, LD_s11, LD_s12, LD_b0, LD_b1, LD_b2, LD_b3, LD_b4, LD_b5, LD_b6, LD_b7, LD_g1, LD_g2, LD_g3, LD_g4, LD_n0, LD_n1, LD_n2, LD_n3, LD_n4, LD_n5, LD_n6, LD_n7, LD_n8, LD_cp, LD_ac, LD_or, LD_oh, c2, c3, c4]
    rw [hR]
    by_cases q1 : jI 60 ≤ g (75 + 9 * k + 4)
    · rw [if_pos q1] at HH
      rw [if_neg (Int32.not_lt.mpr q1)]
      exact HH
    · rw [if_neg q1] at HH
      rw [if_pos (Int32.not_le.mp q1)]
      by_cases q2 : jI 0 < g (75 + 9 * k + 4)
      · rw [if_pos q2] at HH
        rw [if_neg (Int32.not_le.mpr q2)]
        exact HH
      · rw [if_neg q2] at HH
        rw [if_pos (Int32.not_lt.mp q2)]
        exact HH
  · rw [if_neg q, hR]
    exact F1 q
theorem w_part {v w : Int32} (hG : Gd ((g, oh, ng, nd, nc, h), H, sv, y0, d0, r)) (hC : CI σ ((g, oh, ng, nd, nc, h), H, sv, y0, d0, r)) (F1 : ¬ (hs v nd ∧ hs w ng) → K (.inl (some (.int (jI 1)))) (MM Ln σ lo db))
    (HH : ∀ k st, k < nd → v = jI k → st < ng → w = jI st → K (.inl (some (.int (jI 0)))) (MM Ln σ (u2 lo 377 0 (ptS g nd k st).toInt64) db)) :
    Ev 202 (0, [.ref 0, .int v, .int w, .ref 377, .null], [], 0, 0, MM Ln σ lo db) K := by
  have hD1 := DI_1
  have hB : Cb g ng nd nc h := hG.1
  obtain ⟨hng, hnd, hnc, b4, b5, b6, b7, b8, hQ⟩ := hB
  have hR : LD σ 1 g ng nd nc = σ := hC.1.1
  rw [MM_LD hR]
  simp (disch := first | assumption | omega) only [s_202_0, s_202_1, s_202_2, s_202_3, s_202_4, s_202_5, r_202_5, rt_202_5_2, s_202_8, s_202_9, s_202_10, s_202_15, s_202_16, s_202_17, s_202_18, s_90_0, s_90_1, s_90_4, s_90_5, r_90_5, s_90_8, s_90_11, s_90_12, s_90_15, s_90_16, r_90_16, s_90_19, s_90_22, s_90_32, s_90_33, s_90_36, s_90_37, s_90_38, s_90_39, s_90_42, s_90_43, r_90_43, s_90_46, r_90_46, s_90_49, jI_mul, jI_add, jI_tnc, jI_ixT, true_and, and_true, bZ_0, bZ_1, bZ_b, jI_nz, jI_div, jI_rem, jI_mod, Nat.add_zero, bI_if, not_false_iff, if_true, if_false, eq_self, LD_s6, LD_s7, LD_s8, LD_s9, LD_s10, LD_s11, LD_s12, LD_b0, LD_b1, LD_b2, LD_b3, LD_b4, LD_b5, LD_b6, LD_b7, LD_g1, LD_g2, LD_g3, LD_g4, LD_n0, LD_n1, LD_n2, LD_n3, LD_n4, LD_n5, LD_n6, LD_n7, LD_n8, LD_cp, LD_ac, LD_or, LD_oh, c_hasN, c_hasG]
  by_cases q : hs v nd
  · obtain ⟨k, hk, rfl⟩ := hs_of q (by omega)
    rw [if_pos q]
    by_cases q1 : hs w ng
    · obtain ⟨st, hst, rfl⟩ := hs_of q1 (by omega)
      rw [if_pos q1]
      simp (disch := first | assumption | omega) only [s_202_0, s_202_1, s_202_2, s_202_3, s_202_4, s_202_5, r_202_5, rt_202_5_2, s_202_8, s_202_9, s_202_10, s_202_15, s_202_16, s_202_17, s_202_18, s_90_0, s_90_1, s_90_4, s_90_5, r_90_5, s_90_8, s_90_11, s_90_12, s_90_15, s_90_16, r_90_16, s_90_19, s_90_22, s_90_32, s_90_33, s_90_36, s_90_37, s_90_38, s_90_39, s_90_42, s_90_43, r_90_43, s_90_46, r_90_46, s_90_49, jI_mul, jI_add, jI_tnc, jI_ixT, true_and, and_true, bZ_0, bZ_1, bZ_b, jI_nz, jI_div, jI_rem, jI_mod, Nat.add_zero, bI_if, not_false_iff, if_true, if_false, eq_self, c_sharesF]
      refine (c_part hD1 hng hnd hQ hk hst).mpr ?_
      simp (disch := first | assumption | omega) only [s_202_0, s_202_1, s_202_2, s_202_3, s_202_4, s_202_5, r_202_5, rt_202_5_2, s_202_8, s_202_9, s_202_10, s_202_15, s_202_16, s_202_17, s_202_18, s_90_0, s_90_1, s_90_4, s_90_5, r_90_5, s_90_8, s_90_11, s_90_12, s_90_15, s_90_16, r_90_16, s_90_19, s_90_22, s_90_32, s_90_33, s_90_36, s_90_37, s_90_38, s_90_39, s_90_42, s_90_43, r_90_43, s_90_46, r_90_46, s_90_49, jI_mul, jI_add, jI_tnc, jI_ixT, true_and, and_true, bZ_0, bZ_1, bZ_b, jI_nz, jI_div, jI_rem, jI_mod, Nat.add_zero, bI_if, not_false_iff, if_true, if_false, eq_self]
      rw [hR]
      exact HH k st hk rfl hst rfl
    · rw [if_neg q1, hR]
      exact F1 (fun e => q1 e.2)
  · rw [if_neg q, hR]
    exact F1 (fun e => q e.1)
theorem w_refusal {p : Prop} [Decidable p] (hG : Gd ((g, oh, ng, nd, nc, h), H, sv, y0, d0, r)) (hC : CI σ ((g, oh, ng, nd, nc, h), H, sv, y0, d0, r)) (F : y0 = jI 0 → K (.inl (some (.int (jI 1)))) (MM Ln σ lo db))
    (HH : ¬ y0 = jI 0 → K (.inl (some (.int (jI 0)))) (MM Ln σ (u2 lo 377 0 (if p then d0 else y0).toInt64) db)) :
    Ev 208 (0, [.ref 0, .int (bI p), .ref 377, .null], [], 0, 0, MM Ln σ lo db) K := by
  have e0 : σ 367 0 = y0 := hC.2.2.2.2.1
  have e1 : σ 367 1 = d0 := hC.2.2.2.2.2.1
  simp (disch := first | assumption | omega) only [s_208_0, s_208_1, s_208_2, s_208_3, s_208_4, r_208_4, rt_208_4_3, s_208_7, s_208_8, s_208_9, s_208_13, s_208_14, s_208_15, s_208_16, s_97_0, s_97_1, s_97_4, s_97_7, s_97_10, s_97_21, s_97_22, s_97_25, s_97_26, s_97_29, s_97_32, s_97_35, s_97_36, s_97_39, s_97_42, jI_mul, jI_add, jI_tnc, jI_ixT, true_and, and_true, bZ_0, bZ_1, bZ_b, jI_nz, jI_div, jI_rem, jI_mod, Nat.add_zero, bI_if, not_false_iff, if_true, if_false, eq_self, e0, e1]
  by_cases q : y0 = jI 0
  · rw [if_pos q]; exact F q
  · rw [if_neg q]
    have HH := HH q
    by_cases hp : p
    · rw [if_pos hp] at HH ⊢; exact HH
    · rw [if_neg hp] at HH ⊢; exact HH
theorem w_account {w : Int32} {c : Nat → Nat} {len : Nat} {er : Int32} (hG : Gd ((g, oh, ng, nd, nc, h), H, sv, y0, d0, c, len, er)) (hC : CI σ ((g, oh, ng, nd, nc, h), H, sv, y0, d0, c, len, er)) (F : ¬ rng w 0 18 → K (.inl (some (.int (jI 1)))) (MM Ln σ lo db))
    (HH : ∀ n, n ≤ 18 → w = jI n → K (.inl (some (.int (jI 0)))) (MM Ln σ (u2 lo 377 0 (acS g nd len H.length n).toInt64) db)) :
    Ev 209 (0, [.ref 0, .int w, .ref 377, .null], [], 0, 0, MM Ln σ lo db) K := by
  have hD1 := DI_1
  have hB : Cb g ng nd nc h := hG.1
  obtain ⟨hng, hnd, hnc, b4, b5, b6, b7, b8, hQ⟩ := hB
  have hR : LD σ 1 g ng nd nc = σ := hC.1.1
  obtain ⟨p, p1, p2, p3, p4, p5⟩ := hC.2.1
  have e2 : σ 344 2 = jI len := hC.2.2.2.2.2.2.1.2.1
  have e1 : σ 94 1 = jI H.length := p4
  simp (disch := first | assumption | omega) only [s_209_0, s_209_1, s_209_2, s_209_3, s_209_4, r_209_4, rt_209_4_0, s_209_7, s_209_8, s_209_9, s_209_13, s_209_14, s_209_15, s_209_16, s_98_0, s_98_1, s_98_2, s_98_4, r_98_4, s_98_7, s_98_10, s_98_21, s_98_22, s_98_24, s_98_27, s_98_28, s_98_31, s_98_34, s_98_35, s_98_36, s_98_38, s_98_41, s_98_42, s_98_45, s_98_48, s_98_49, s_98_50, s_98_53, s_98_54, r_98_54, s_98_57, jI_mul, jI_add, jI_tnc, jI_ixT, true_and, and_true, bZ_0, bZ_1, bZ_b, jI_nz, jI_div, jI_rem, jI_mod, Nat.add_zero, bI_if, not_false_iff, if_true, if_false, eq_self, c_within, e1, e2]
  by_cases q : rng w 0 18
  · rw [if_pos q]
    obtain ⟨n, rfl, n0, n1⟩ := rng_of q (by decide) (by decide)
    have HH := HH n n1 rfl
    simp (disch := first | assumption | omega) only [jI_inj]
    by_cases q1 : n = 17
    · subst q1
      have ea : acS g nd len H.length 17 = jI len := rfl
      rw [ea] at HH
      rw [if_pos rfl]; exact HH
    · rw [if_neg q1]
      by_cases q2 : n = 18
      · subst q2
        have ea : acS g nd len H.length 18 = jI H.length := rfl
        rw [ea] at HH
        rw [if_pos rfl]; exact HH
      · rw [if_neg q2, MM_LD hR]
        refine (c_account (len := len) (ch := H.length) hD1 hng hnd b6 (by omega)).mpr ?_
        simp (disch := first | assumption | omega) only [s_209_0, s_209_1, s_209_2, s_209_3, s_209_4, r_209_4, rt_209_4_0, s_209_7, s_209_8, s_209_9, s_209_13, s_209_14, s_209_15, s_209_16, s_98_0, s_98_1, s_98_2, s_98_4, r_98_4, s_98_7, s_98_10, s_98_21, s_98_22, s_98_24, s_98_27, s_98_28, s_98_31, s_98_34, s_98_35, s_98_36, s_98_38, s_98_41, s_98_42, s_98_45, s_98_48, s_98_49, s_98_50, s_98_53, s_98_54, r_98_54, s_98_57, jI_mul, jI_add, jI_tnc, jI_ixT, true_and, and_true, bZ_0, bZ_1, bZ_b, jI_nz, jI_div, jI_rem, jI_mod, Nat.add_zero, bI_if, not_false_iff, if_true, if_false, eq_self]
        rw [hR]
        exact HH
  · rw [if_neg q]
    exact F q
theorem w_share (hG : Gd ((g, oh, ng, nd, nc, h), H, sv, y0, d0, r)) (hC : CI σ ((g, oh, ng, nd, nc, h), H, sv, y0, d0, r)) (F : g 7 = jI 0 → K (.inl (some (.int (jI 1)))) (MM Ln σ lo db))
    (HH : ¬ g 7 = jI 0 → K (.inl (some (.int (jI 0)))) (MM Ln σ lo (u2 db 378 0 (FP.f2d (FP.fdiv (FP.i2f (g 9)) (FP.i2f (g 7))))))) :
    Ev 210 (0, [.ref 0, .ref 378, .null], [], 0, 0, MM Ln σ lo db) K := by
  have hD1 := DI_1
  have hR : LD σ 1 g ng nd nc = σ := hC.1.1
  rw [MM_LD hR]
  simp (disch := first | assumption | omega) only [s_210_0, s_210_1, s_210_2, s_210_3, r_210_3, rt_210_3_5, s_210_6, s_210_7, s_210_8, s_210_12, s_210_13, s_210_14, s_210_15, s_100_0, s_100_1, s_100_4, s_100_7, s_100_10, s_100_13, s_100_24, s_100_25, s_100_28, s_100_31, s_100_34, s_100_35, s_100_36, s_100_39, s_100_42, s_100_45, s_100_47, jI_mul, jI_add, jI_tnc, jI_ixT, true_and, and_true, bZ_0, bZ_1, bZ_b, jI_nz, jI_div, jI_rem, jI_mod, Nat.add_zero, bI_if, not_false_iff, if_true, if_false, eq_self, LD_s6, LD_s7, LD_s8, LD_s9, LD_s10, LD_s11, LD_s12, LD_b0, LD_b1, LD_b2, LD_b3, LD_b4, LD_b5, LD_b6, LD_b7, LD_g1, LD_g2, LD_g3, LD_g4, LD_n0, LD_n1, LD_n2, LD_n3, LD_n4, LD_n5, LD_n6, LD_n7, LD_n8, LD_cp, LD_ac, LD_or, LD_oh]
  by_cases q : g 7 = jI 0
  · rw [if_pos q, hR]
    exact F q
  · rw [if_neg q]
    have hf := fl_fdiv (a := g 9) (b := g 7) q
    rw [s_100_46 hf]
    simp (disch := first | assumption | omega) only [s_210_0, s_210_1, s_210_2, s_210_3, r_210_3, rt_210_3_5, s_210_7, s_210_8, s_210_12, s_210_13, s_210_14, s_210_15, s_100_0, s_100_1, s_100_4, s_100_7, s_100_10, s_100_13, s_100_24, s_100_25, s_100_28, s_100_31, s_100_34, s_100_35, s_100_36, s_100_39, s_100_42, s_100_45, s_100_46, s_100_47, jI_mul, jI_add, jI_tnc, jI_ixT, true_and, and_true, bZ_0, bZ_1, bZ_b, jI_nz, jI_div, jI_rem, jI_mod, Nat.add_zero, bI_if, not_false_iff, if_true, if_false, eq_self]
    rw [s_210_6 (fl_f2d hf)]
    simp (disch := first | assumption | omega) only [s_210_0, s_210_1, s_210_2, s_210_3, r_210_3, rt_210_3_5, s_210_6, s_210_7, s_210_8, s_210_12, s_210_13, s_210_14, s_210_15, s_100_0, s_100_1, s_100_4, s_100_7, s_100_10, s_100_13, s_100_24, s_100_25, s_100_28, s_100_31, s_100_34, s_100_35, s_100_36, s_100_39, s_100_42, s_100_45, s_100_47, jI_mul, jI_add, jI_tnc, jI_ixT, true_and, and_true, bZ_0, bZ_1, bZ_b, jI_nz, jI_div, jI_rem, jI_mod, Nat.add_zero, bI_if, not_false_iff, if_true, if_false, eq_self]
    rw [hR]
    exact HH q
theorem w_meanThirst (hG : Gd ((g, oh, ng, nd, nc, h), H, sv, y0, d0, r)) (hC : CI σ ((g, oh, ng, nd, nc, h), H, sv, y0, d0, r)) (F : nd = 0 → K (.inl (some (.int (jI 1)))) (MM Ln σ lo db))
    (HH : 0 < nd → K (.inl (some (.int (jI 0)))) (MM Ln σ lo (u2 db 378 0 (FP.ddiv (FP.i2d (sumS g nd 4)) (FP.i2d (jI nd)))))) :
    Ev 211 (0, [.ref 0, .ref 378, .null], [], 0, 0, MM Ln σ lo db) K := by
  have hD1 := DI_1
  have hB : Cb g ng nd nc h := hG.1
  obtain ⟨hng, hnd, hnc, b4, b5, b6, b7, b8, hQ⟩ := hB
  have hR : LD σ 1 g ng nd nc = σ := hC.1.1
  rw [MM_LD hR]
  simp (disch := first | assumption | omega) only [s_211_0, s_211_1, s_211_2, s_211_3, r_211_3, rt_211_3_5, s_211_6, s_211_7, s_211_11, s_211_12, s_211_13, s_211_14, s_101_0, s_101_1, s_101_4, s_101_7, s_101_10, s_101_21, s_101_22, s_101_25, r_101_25, s_101_28, s_101_29, s_101_30, s_101_33, s_101_36, s_101_38, jI_mul, jI_add, jI_tnc, jI_ixT, true_and, and_true, bZ_0, bZ_1, bZ_b, jI_nz, jI_div, jI_rem, jI_mod, Nat.add_zero, bI_if, not_false_iff, if_true, if_false, eq_self, LD_s6, LD_s7, LD_s8, LD_s9, LD_s10, LD_s11, LD_s12, LD_b0, LD_b1, LD_b2, LD_b3, LD_b4, LD_b5, LD_b6, LD_b7, LD_g1, LD_g2, LD_g3, LD_g4, LD_n0, LD_n1, LD_n2, LD_n3, LD_n4, LD_n5, LD_n6, LD_n7, LD_n8, LD_cp, LD_ac, LD_or, LD_oh, b6]
  rcases Nat.eq_zero_or_pos nd with q | q
  · subst q
    rw [if_pos rfl, hR]
    exact F rfl
  · have n0 : ¬ jI nd = jI 0 := fun e => by have := (jI_inj (by omega) (by omega)).mp e; omega
    rw [if_neg n0]
    have hf := fl_ddiv (a := sumS g nd 4) (b := jI nd) n0
    simp (disch := first | assumption | omega) only [s_211_0, s_211_1, s_211_2, s_211_3, r_211_3, rt_211_3_5, s_211_6, s_211_7, s_211_11, s_211_12, s_211_13, s_211_14, s_101_0, s_101_1, s_101_4, s_101_7, s_101_10, s_101_21, s_101_22, s_101_25, r_101_25, s_101_28, s_101_29, s_101_30, s_101_33, s_101_36, s_101_38, jI_mul, jI_add, jI_tnc, jI_ixT, true_and, and_true, bZ_0, bZ_1, bZ_b, jI_nz, jI_div, jI_rem, jI_mod, Nat.add_zero, bI_if, not_false_iff, if_true, if_false, eq_self, LD_s6, LD_s7, LD_s8, LD_s9, LD_s10, LD_s11, LD_s12, LD_b0, LD_b1, LD_b2, LD_b3, LD_b4, LD_b5, LD_b6, LD_b7, LD_g1, LD_g2, LD_g3, LD_g4, LD_n0, LD_n1, LD_n2, LD_n3, LD_n4, LD_n5, LD_n6, LD_n7, LD_n8, LD_cp, LD_ac, LD_or, LD_oh, b6, c_sumT]
    rw [s_101_37 hf]
    simp (disch := first | assumption | omega) only [s_211_0, s_211_1, s_211_2, s_211_3, r_211_3, rt_211_3_5, s_211_6, s_211_7, s_211_11, s_211_12, s_211_13, s_211_14, s_101_0, s_101_1, s_101_4, s_101_7, s_101_10, s_101_21, s_101_22, s_101_25, r_101_25, s_101_28, s_101_29, s_101_30, s_101_33, s_101_36, s_101_37, s_101_38, jI_mul, jI_add, jI_tnc, jI_ixT, true_and, and_true, bZ_0, bZ_1, bZ_b, jI_nz, jI_div, jI_rem, jI_mod, Nat.add_zero, bI_if, not_false_iff, if_true, if_false, eq_self]
    rw [hR]
    exact HH q
theorem w_isWell (hG : Gd ((g, oh, ng, nd, nc, h), H, sv, y0, d0, r)) (hC : CI σ ((g, oh, ng, nd, nc, h), H, sv, y0, d0, r)) (w1 : g 7 = g 8 + g 9 + g 10 + g 11) (w2 : g 9 = sumS g nd 6) (w3 : g 9 = kpT g ng) (w4 : g 10 = sumS g nd 7)
    (HH : K (.inl (some (.int (jI 1)))) (MM Ln σ lo db)) : Ev 99 (0, [.ref 0], [], 0, 0, MM Ln σ lo db) K := by
  have hD1 := DI_1
  have hB : Cb g ng nd nc h := hG.1
  obtain ⟨hng, hnd, hnc, b4, b5, b6, b7, b8, hQ⟩ := hB
  have hR : LD σ 1 g ng nd nc = σ := hC.1.1
  rw [MM_LD hR]
  simp (disch := first | assumption | omega) only [s_99_0, s_99_1, s_99_4, r_99_4, s_99_7, jI_mul, jI_add, jI_tnc, jI_ixT, true_and, and_true, bZ_0, bZ_1, bZ_b, jI_nz, jI_div, jI_rem, jI_mod, Nat.add_zero, bI_if, not_false_iff, if_true, if_false, eq_self]
  refine c_balanced hD1 hng hnd b5 b6 w1 w2 w3 w4 ?_
  simp (disch := first | assumption | omega) only [s_99_0, s_99_1, s_99_4, r_99_4, s_99_7, jI_mul, jI_add, jI_tnc, jI_ixT, true_and, and_true, bZ_0, bZ_1, bZ_b, jI_nz, jI_div, jI_rem, jI_mod, Nat.add_zero, bI_if, not_false_iff, if_true, if_false, eq_self]
  rw [hR]
  exact HH
theorem w_error {c : Nat → Nat} {len : Nat} {er : Int32} (hC : CI σ ((g, oh, ng, nd, nc, h), H, sv, y0, d0, c, len, er)) : Ev 96 (0, [.ref 0], [], 0, 0, MM Ln σ lo db) K ↔ K (.inl (some (.int er))) (MM Ln σ lo db) := by
  have e : σ 0 7 = er := hC.2.2.2.2.2.2.2
  simp (disch := first | assumption | omega) only [s_96_0, s_96_1, s_96_4, jI_mul, jI_add, jI_tnc, jI_ixT, true_and, and_true, bZ_0, bZ_1, bZ_b, jI_nz, jI_div, jI_rem, jI_mod, Nat.add_zero, bI_if, not_false_iff, if_true, if_false, eq_self, e]
end
