/-! THE CLASS: trials, the input, undo and the snapshot, as the law calls them -/
set_option maxRecDepth 16384
section
variable {K : Ou → Me → Prop} {Ln : Nat} {σ σ' : Nat → Nat → Int32} {g : Gr} {lo : Nat → Nat → Int64} {db : Nat → Nat → UInt64} {μ : Me} {oh : Nat → Nat → Bool} {o ng nd nc h i : Nat} {H : List Sy} {sv : Option Sy} {y0 d0 : Int32} {r : (Nat → Nat) × Nat × Int32}
theorem w_thirsty {v w : Int32} (hG : Gd ((g, oh, ng, nd, nc, h), H, sv, y0, d0, r)) (hC : CI σ ((g, oh, ng, nd, nc, h), H, sv, y0, d0, r)) (F1 : ¬ hs v ng → K (.inl (some (.int (jI 1)))) (MM Ln σ lo db))
    (F2 : ∀ k, k < ng → v = jI k → ¬ hs w (ordS g (jI k) nd).2 → ∀ σ', CI σ' ((g, oh, ng, nd, nc, h), H, sv, y0, d0, r) → PC σ σ' → K (.inl (some (.int (jI 2)))) (MM Ln σ' lo db))
    (HH : ∀ k n, k < ng → v = jI k → n < (ordS g (jI k) nd).2 → w = jI n → ∀ σ', CI σ' ((g, oh, ng, nd, nc, h), H, sv, y0, d0, r) → PC σ σ' → K (.inl (some (.int (jI 0)))) (MM Ln σ' (u2 lo 377 0 (jI ((ordS g (jI k) nd).1 n)).toInt64) db)) :
    Ev 198 (0, [.ref 0, .int v, .int w, .ref 377, .null], [], 0, 0, MM Ln σ lo db) K := by
  have hD1 := DI_1
  have hB : Cb g ng nd nc h := hG.1
  obtain ⟨hng, hnd, hnc, b4, b5, b6, b7, b8, hQ⟩ := hB
  have hR : LD σ 1 g ng nd nc = σ := hC.1.1
  have hO : OHc σ 1 ng oh := hC.1.2
  rw [MM_LD hR]
  simp (disch := first | assumption | omega) only [s_198_0, s_198_1, s_198_2, s_198_3, s_198_4, s_198_5, r_198_5, rt_198_5_2, rt_198_5_3, s_198_8, s_198_9, s_198_10, s_198_15, s_198_16, s_198_19, s_198_20, s_198_21, s_198_22, s_86_0, s_86_1, s_86_4, s_86_5, r_86_5, s_86_8, s_86_11, s_86_21, s_86_22, s_86_25, s_86_26, s_86_27, s_86_30, s_86_31, r_86_31, s_86_34, s_86_37, s_86_47, s_86_48, s_86_51, s_86_54, s_86_55, s_86_56, s_86_59, jI_mul, jI_add, jI_tnc, jI_ixT, true_and, and_true, bZ_0, bZ_1, bZ_b, jI_nz, jI_div, jI_rem, jI_mod, Nat.add_zero, bI_if, not_false_iff, if_true, if_false, eq_self, LD_s6, LD_s7, LD_s8, LD_s9, LD_s10, LD_s11, LD_s12, LD_b0, LD_b1, LD_b2, LD_b3, LD_b4, LD_b5, LD_b6, LD_b7, LD_g1, LD_g2, LD_g3, LD_g4, LD_n0, LD_n1, LD_n2, LD_n3, LD_n4, LD_n5, LD_n6, LD_n7, LD_n8, LD_cp, LD_ac, LD_or, LD_oh, c_hasG]
  by_cases q : hs v ng
  · obtain ⟨k, hk, rfl⟩ := hs_of q (by omega)
    rw [if_pos q]
    have hol := (ordS_lt (g := g) (gt := jI k) nd).1
    have F2 := F2 k hk rfl
    have HH := fun n => HH k n hk rfl
    try simp (disch := first | assumption | omega) only [s_198_0, s_198_1, s_198_2, s_198_3, s_198_4, s_198_5, r_198_5, rt_198_5_2, rt_198_5_3, s_198_8, s_198_9, s_198_10, s_198_15, s_198_16, s_198_19, s_198_20, s_198_21, s_198_22, s_86_0, s_86_1, s_86_4, s_86_5, r_86_5, s_86_8, s_86_11, s_86_21, s_86_22, s_86_25, s_86_26, s_86_27, s_86_30, s_86_31, r_86_31, s_86_34, s_86_37, s_86_47, s_86_48, s_86_51, s_86_54, s_86_55, s_86_56, s_86_59, jI_mul, jI_add, jI_tnc, jI_ixT, true_and, and_true, bZ_0, bZ_1, bZ_b, jI_nz, jI_div, jI_rem, jI_mod, Nat.add_zero, bI_if, not_false_iff, if_true, if_false, eq_self]
    by_cases q0 : w < jI 0
    · rw [if_pos q0, hR]
      exact F2 (fun e => ((hs_c (by omega)).mp e).1 q0) _ hC PC.refl
    · rw [if_neg q0]
      refine c_orders hD1 hng hnd b6 (fun τ f1 h2 => ?_)
      have hCI : CI (LD τ 1 g ng nd nc) ((g, oh, ng, nd, nc, h), H, sv, y0, d0, r) := CI_curF (s' := (g, oh, ng, nd, nc, h)) hG hC (RD.ld hng (f1.toOH hO)) (Fout.ld hng hnd f1.fo.1)
      have hPC : PC σ (LD τ 1 g ng nd nc) := PC.refl.out (Fout.ld hng hnd f1.fo.1)
      simp (disch := first | assumption | omega) only [s_198_0, s_198_1, s_198_2, s_198_3, s_198_4, s_198_5, r_198_5, rt_198_5_2, rt_198_5_3, s_198_8, s_198_9, s_198_10, s_198_15, s_198_16, s_198_19, s_198_20, s_198_21, s_198_22, s_86_0, s_86_1, s_86_4, s_86_5, r_86_5, s_86_8, s_86_11, s_86_21, s_86_22, s_86_25, s_86_26, s_86_27, s_86_30, s_86_31, r_86_31, s_86_34, s_86_37, s_86_47, s_86_48, s_86_51, s_86_54, s_86_55, s_86_56, s_86_59, jI_mul, jI_add, jI_tnc, jI_ixT, true_and, and_true, bZ_0, bZ_1, bZ_b, jI_nz, jI_div, jI_rem, jI_mod, Nat.add_zero, bI_if, not_false_iff, if_true, if_false, eq_self]
      by_cases q1 : w < jI (ordS g (jI k) nd).2
      · obtain ⟨n, hn, rfl⟩ := jI_range (by omega) (Int32.not_lt.mp q0) q1
        have e := (h2.2 n hn).1
        rw [if_pos q1]
        have h12 : (ordS g (jI k) nd).1 n < 12 := by have := (h2.2 n hn).2; omega
        have hq := jI_nA hD1 h12
        simp (disch := first | assumption | omega) only [s_198_0, s_198_1, s_198_2, s_198_3, s_198_4, s_198_5, r_198_5, rt_198_5_2, rt_198_5_3, s_198_8, s_198_9, s_198_10, s_198_15, s_198_16, s_198_19, s_198_20, s_198_21, s_198_22, s_86_0, s_86_1, s_86_4, s_86_5, r_86_5, s_86_8, s_86_11, s_86_21, s_86_22, s_86_25, s_86_26, s_86_27, s_86_30, s_86_31, r_86_31, s_86_34, s_86_37, s_86_47, s_86_48, s_86_51, s_86_54, s_86_55, s_86_56, s_86_59, jI_mul, jI_add, jI_tnc, jI_ixT, true_and, and_true, bZ_0, bZ_1, bZ_b, jI_nz, jI_div, jI_rem, jI_mod, Nat.add_zero, bI_if, not_false_iff, if_true, if_false, eq_self, LD_or, e, hq]
        exact HH n hn rfl _ hCI hPC
      · rw [if_neg q1]
        exact F2 (fun e => q1 (Int32.not_le.mp ((hs_c (by omega)).mp e).2)) _ hCI hPC
  · rw [if_neg q, hR]
    exact F1 q
theorem w_ahead {v w : Int32} (hh : h < 1000000000) (hG : Gd ((g, oh, ng, nd, nc, h), H, sv, y0, d0, r)) (hC : CI σ ((g, oh, ng, nd, nc, h), H, sv, y0, d0, r)) (F1 : ¬ hs v ng → K (.inl (some (.int (jI 1)))) (MM Ln σ lo db))
    (F2 : hs v ng → ¬ rng w 1 200 → K (.inl (some (.int (jI 2)))) (MM Ln σ lo db))
    (HH : ∀ k n, k < ng → v = jI k → 1 ≤ n → n ≤ 200 → w = jI n → ∀ σ', CI σ' ((g, oh, ng, nd, nc, h), H, sv, y0, d0, r) → PC σ σ' → K (.inl (some (.int (jI 0)))) (MM Ln σ' (u2 lo 377 0 ((hoursS oh ng nd nc h g n).1 (15 + 10 * k + 2) - g (15 + 10 * k + 2)).toInt64) db)) :
    Ev 203 (0, [.ref 0, .int v, .int w, .ref 377, .null], [], 0, 0, MM Ln σ lo db) K := by
  have hD1 := DI_1
  have hD32 := DI_32
  have hB : Cb g ng nd nc h := hG.1
  have hB0 := hB
  obtain ⟨hng, hnd, hnc, b4, b5, b6, b7, b8, hQ⟩ := hB
  have hR : LD σ 1 g ng nd nc = σ := hC.1.1
  rw [MM_LD hR]
  simp (disch := first | assumption | omega) only [s_203_0, s_203_1, s_203_2, s_203_3, s_203_4, s_203_5, r_203_5, rt_203_5_2, rt_203_5_0, s_203_8, s_203_9, s_203_10, s_203_15, s_203_16, s_203_19, s_203_20, s_203_21, s_203_22, s_91_0, s_91_1, s_91_4, s_91_5, r_91_5, s_91_8, s_91_11, s_91_21, s_91_22, r_91_22, s_91_25, s_91_28, s_91_38, s_91_39, s_91_42, s_91_43, s_91_46, r_91_46, s_91_49, s_91_50, s_91_53, s_91_54, s_91_55, r_91_55, s_91_58, jI_mul, jI_add, jI_tnc, jI_ixT, true_and, and_true, bZ_0, bZ_1, bZ_b, jI_nz, jI_div, jI_rem, jI_mod, Nat.add_zero, bI_if, not_false_iff, if_true, if_false, eq_self, LD_s6, LD_s7, LD_s8, LD_s9, LD_s10, LD_s11, LD_s12, LD_b0, LD_b1, LD_b2, LD_b3, LD_b4, LD_b5, LD_b6, LD_b7, LD_g1, LD_g2, LD_g3, LD_g4, LD_n0, LD_n1, LD_n2, LD_n3, LD_n4, LD_n5, LD_n6, LD_n7, LD_n8, LD_cp, LD_ac, LD_or, LD_oh, c_hasG, c_span]
  by_cases q : hs v ng
  · obtain ⟨k, hk, rfl⟩ := hs_of q (by omega)
    rw [if_pos q]
    by_cases q1 : rng w 1 200
    · rw [if_pos q1, hR]
      obtain ⟨n, rfl, n0, n1⟩ := rng_of q1 (by decide) (by decide)
      try simp (disch := first | assumption | omega) only [s_203_0, s_203_1, s_203_2, s_203_3, s_203_4, s_203_5, r_203_5, rt_203_5_2, rt_203_5_0, s_203_8, s_203_9, s_203_10, s_203_15, s_203_16, s_203_19, s_203_20, s_203_21, s_203_22, s_91_0, s_91_1, s_91_4, s_91_5, r_91_5, s_91_8, s_91_11, s_91_21, s_91_22, r_91_22, s_91_25, s_91_28, s_91_38, s_91_39, s_91_42, s_91_43, s_91_46, r_91_46, s_91_49, s_91_50, s_91_53, s_91_54, s_91_55, r_91_55, s_91_58, jI_mul, jI_add, jI_tnc, jI_ixT, true_and, and_true, bZ_0, bZ_1, bZ_b, jI_nz, jI_div, jI_rem, jI_mod, Nat.add_zero, bI_if, not_false_iff, if_true, if_false, eq_self]
      refine c_copy (o1 := 32) (o2 := 1) hD32 hD1 (by decide) hC.1 hB0 (fun τ t1 f1 => ?_)
      rw [MM_LD t1.1]
      simp (disch := first | assumption | omega) only [s_203_0, s_203_1, s_203_2, s_203_3, s_203_4, s_203_5, r_203_5, rt_203_5_2, rt_203_5_0, s_203_8, s_203_9, s_203_10, s_203_15, s_203_16, s_203_19, s_203_20, s_203_21, s_203_22, s_91_0, s_91_1, s_91_4, s_91_5, r_91_5, s_91_8, s_91_11, s_91_21, s_91_22, r_91_22, s_91_25, s_91_28, s_91_38, s_91_39, s_91_42, s_91_43, s_91_46, r_91_46, s_91_49, s_91_50, s_91_53, s_91_54, s_91_55, r_91_55, s_91_58, jI_mul, jI_add, jI_tnc, jI_ixT, true_and, and_true, bZ_0, bZ_1, bZ_b, jI_nz, jI_div, jI_rem, jI_mod, Nat.add_zero, bI_if, not_false_iff, if_true, if_false, eq_self]
      refine c_take hD32 hk n1 hB0 (by omega) t1.2 (fun τ' f2 => ?_)
      simp (disch := first | assumption | omega) only [s_203_0, s_203_1, s_203_2, s_203_3, s_203_4, s_203_5, r_203_5, rt_203_5_2, rt_203_5_0, s_203_8, s_203_9, s_203_10, s_203_15, s_203_16, s_203_19, s_203_20, s_203_21, s_203_22, s_91_0, s_91_1, s_91_4, s_91_5, r_91_5, s_91_8, s_91_11, s_91_21, s_91_22, r_91_22, s_91_25, s_91_28, s_91_38, s_91_39, s_91_42, s_91_43, s_91_46, r_91_46, s_91_49, s_91_50, s_91_53, s_91_54, s_91_55, r_91_55, s_91_58, jI_mul, jI_add, jI_tnc, jI_ixT, true_and, and_true, bZ_0, bZ_1, bZ_b, jI_nz, jI_div, jI_rem, jI_mod, Nat.add_zero, bI_if, not_false_iff, if_true, if_false, eq_self]
      have f3 : Fout 32 σ (LD τ' 32 (hoursS oh ng nd nc h g n).1 ng nd (hoursS oh ng nd nc h g n).2) := Fout.ld hng hnd (Fout.trans f1 f2.1)
      exact HH k n hk rfl n0 n1 rfl _ (CI_same hG hC (fun a ha => f3 a (by omega))) (fun a ha => f3 a (by omega))
    · rw [if_neg q1, hR]
      exact F2 q q1
  · rw [if_neg q, hR]
    exact F1 q
theorem w_dryIn (hh : h < 1000000000) (hG : Gd ((g, oh, ng, nd, nc, h), H, sv, y0, d0, r)) (hC : CI σ ((g, oh, ng, nd, nc, h), H, sv, y0, d0, r))
    (F : (∀ n, n ≤ 200 → ¬ dry (hoursS oh ng nd nc h g n).1 nd) → ∀ σ', CI σ' ((g, oh, ng, nd, nc, h), H, sv, y0, d0, r) → PC σ σ' → K (.inl (some (.int (jI 1)))) (MM Ln σ' lo db))
    (HH : ∀ n, n ≤ 200 → dry (hoursS oh ng nd nc h g n).1 nd → (∀ j, j < n → ¬ dry (hoursS oh ng nd nc h g j).1 nd) → ∀ σ', CI σ' ((g, oh, ng, nd, nc, h), H, sv, y0, d0, r) → PC σ σ' → K (.inl (some (.int (jI 0)))) (MM Ln σ' (u2 lo 377 0 (jI n).toInt64) db)) :
    Ev 204 (0, [.ref 0, .ref 377, .null], [], 0, 0, MM Ln σ lo db) K := by
  have hD1 := DI_1
  have hD32 := DI_32
  have hB : Cb g ng nd nc h := hG.1
  have hB0 := hB
  obtain ⟨hng, hnd, hnc, b4, b5, b6, b7, b8, hQ⟩ := hB
  simp (disch := first | assumption | omega) only [s_204_0, s_204_1, s_204_2, s_204_3, r_204_3, rt_204_3_3, s_204_6, s_204_7, s_204_8, s_204_12, s_204_13, s_204_14, s_204_15, s_92_0, s_92_1, s_92_4, s_92_5, s_92_8, r_92_8, s_92_11, s_92_12, s_92_14, s_92_17, s_92_20, s_92_21, s_92_24, r_92_24, s_92_27, s_92_30, s_92_31, s_92_32, s_92_33, s_92_36, r_92_36, s_92_39, s_92_42, s_92_45, jI_mul, jI_add, jI_tnc, jI_ixT, true_and, and_true, bZ_0, bZ_1, bZ_b, jI_nz, jI_div, jI_rem, jI_mod, Nat.add_zero, bI_if, not_false_iff, if_true, if_false, eq_self]
  refine c_copy (o1 := 32) (o2 := 1) hD32 hD1 (by decide) hC.1 hB0 (fun τ t1 f1 => ?_)
  rw [MM_LD t1.1]
  simp (disch := first | assumption | omega) only [s_204_0, s_204_1, s_204_2, s_204_3, r_204_3, rt_204_3_3, s_204_6, s_204_7, s_204_8, s_204_12, s_204_13, s_204_14, s_204_15, s_92_0, s_92_1, s_92_4, s_92_5, s_92_8, r_92_8, s_92_11, s_92_12, s_92_14, s_92_17, s_92_20, s_92_21, s_92_24, r_92_24, s_92_27, s_92_30, s_92_31, s_92_32, s_92_33, s_92_36, r_92_36, s_92_39, s_92_42, s_92_45, jI_mul, jI_add, jI_tnc, jI_ixT, true_and, and_true, bZ_0, bZ_1, bZ_b, jI_nz, jI_div, jI_rem, jI_mod, Nat.add_zero, bI_if, not_false_iff, if_true, if_false, eq_self]
  have fin : ∀ (τ' : Nat → Nat → Int32) (g' : Gr) (nc' : Nat), Fo 32 τ τ' → CI (LD τ' 32 g' ng nd nc') ((g, oh, ng, nd, nc, h), H, sv, y0, d0, r) ∧ PC σ (LD τ' 32 g' ng nd nc') := fun τ' g' nc' f2 => by
    have f3 : Fout 32 σ (LD τ' 32 g' ng nd nc') := Fout.ld hng hnd (Fout.trans f1 f2.1)
    exact ⟨CI_same hG hC (fun a ha => f3 a (by omega)), fun a ha => f3 a (by omega)⟩
  refine lup0 201 (fun n x => ∃ τ', x = (13, [.ref 0, .int (jI n)], [], 0, 0, MM Ln (LD τ' 32 (hoursS oh ng nd nc h g n).1 ng nd (hoursS oh ng nd nc h g n).2) lo db) ∧ Fo 32 τ τ' ∧ ∀ j, j < n → ¬ dry (hoursS oh ng nd nc h g j).1 nd) ⟨_, rfl, Fo.refl, fun j hj => absurd hj (Nat.not_lt_zero j)⟩ ?_ ?_
  · rintro n x hn' ⟨τ', rfl, f2, hno⟩ hn
    have hBn := hoursS_cb (oh := oh) hB0 n (by omega)
    have n0 : (jI 200 < jI n) = False := eq_false (by rw [jI_lt (by omega) (by omega)]; omega)
    rw [s_92_13]
    simp (disch := first | assumption | omega) only [s_204_0, s_204_1, s_204_2, s_204_3, r_204_3, rt_204_3_3, s_204_6, s_204_7, s_204_8, s_204_12, s_204_13, s_204_14, s_204_15, s_92_0, s_92_1, s_92_4, s_92_5, s_92_8, r_92_8, s_92_11, s_92_12, s_92_14, s_92_17, s_92_20, s_92_21, s_92_24, r_92_24, s_92_27, s_92_30, s_92_31, s_92_32, s_92_33, s_92_36, r_92_36, s_92_39, s_92_42, s_92_45, jI_mul, jI_add, jI_tnc, jI_ixT, true_and, and_true, bZ_0, bZ_1, bZ_b, jI_nz, jI_div, jI_rem, jI_mod, Nat.add_zero, bI_if, not_false_iff, if_true, if_false, eq_self, n0, if_false]
    refine c_driest hD32 hng hnd hBn.2.2.2.2.2.1 hBn.2.2.2.2.2.2.2.2 (fun hd => ?_) (fun hd => ?_)
    · simp (disch := first | assumption | omega) only [s_204_0, s_204_1, s_204_2, s_204_3, r_204_3, rt_204_3_3, s_204_6, s_204_7, s_204_8, s_204_12, s_204_13, s_204_14, s_204_15, s_92_0, s_92_1, s_92_4, s_92_5, s_92_8, r_92_8, s_92_11, s_92_12, s_92_14, s_92_17, s_92_20, s_92_21, s_92_24, r_92_24, s_92_27, s_92_30, s_92_31, s_92_32, s_92_33, s_92_36, r_92_36, s_92_39, s_92_42, s_92_45, jI_mul, jI_add, jI_tnc, jI_ixT, true_and, and_true, bZ_0, bZ_1, bZ_b, jI_nz, jI_div, jI_rem, jI_mod, Nat.add_zero, bI_if, not_false_iff, if_true, if_false, eq_self, if_true]
      refine c_hour hD32 hBn (by omega) (f2.toOH hng t1.2) (fun τ'' f3 => ?_)
      simp (disch := first | assumption | omega) only [s_204_0, s_204_1, s_204_2, s_204_3, r_204_3, rt_204_3_3, s_204_6, s_204_7, s_204_8, s_204_12, s_204_13, s_204_14, s_204_15, s_92_0, s_92_1, s_92_4, s_92_5, s_92_8, r_92_8, s_92_11, s_92_12, s_92_14, s_92_17, s_92_20, s_92_21, s_92_24, r_92_24, s_92_27, s_92_30, s_92_31, s_92_32, s_92_33, s_92_36, r_92_36, s_92_39, s_92_42, s_92_45, jI_mul, jI_add, jI_tnc, jI_ixT, true_and, and_true, bZ_0, bZ_1, bZ_b, jI_nz, jI_div, jI_rem, jI_mod, Nat.add_zero, bI_if, not_false_iff, if_true, if_false, eq_self]
      refine hn _ ⟨τ'', rfl, f2.trans f3, fun j hj => ?_⟩
      by_cases hji : j = n
      · subst hji; exact hd
      · exact hno j (by omega)
    · have n1 : (jI 1 = jI 0) = False := jI_nz (by decide) (by decide)
      simp (disch := first | assumption | omega) only [s_204_0, s_204_1, s_204_2, s_204_3, r_204_3, rt_204_3_3, s_204_6, s_204_7, s_204_8, s_204_12, s_204_13, s_204_14, s_204_15, s_92_0, s_92_1, s_92_4, s_92_5, s_92_8, r_92_8, s_92_11, s_92_12, s_92_14, s_92_17, s_92_20, s_92_21, s_92_24, r_92_24, s_92_27, s_92_30, s_92_31, s_92_32, s_92_33, s_92_36, r_92_36, s_92_39, s_92_42, s_92_45, jI_mul, jI_add, jI_tnc, jI_ixT, true_and, and_true, bZ_0, bZ_1, bZ_b, jI_nz, jI_div, jI_rem, jI_mod, Nat.add_zero, bI_if, not_false_iff, if_true, if_false, eq_self, n1, if_false]
      have := fin τ' (hoursS oh ng nd nc h g n).1 (hoursS oh ng nd nc h g n).2 f2
      exact HH n (by omega) hd hno _ this.1 this.2
  · rintro x ⟨τ', rfl, f2, hno⟩
    have n0 : (jI 200 < jI 201) = True := eq_true (by decide)
    rw [s_92_13]
    simp (disch := first | assumption | omega) only [s_204_0, s_204_1, s_204_2, s_204_3, r_204_3, rt_204_3_3, s_204_6, s_204_7, s_204_8, s_204_12, s_204_13, s_204_14, s_204_15, s_92_0, s_92_1, s_92_4, s_92_5, s_92_8, r_92_8, s_92_11, s_92_12, s_92_14, s_92_17, s_92_20, s_92_21, s_92_24, r_92_24, s_92_27, s_92_30, s_92_31, s_92_32, s_92_33, s_92_36, r_92_36, s_92_39, s_92_42, s_92_45, jI_mul, jI_add, jI_tnc, jI_ixT, true_and, and_true, bZ_0, bZ_1, bZ_b, jI_nz, jI_div, jI_rem, jI_mod, Nat.add_zero, bI_if, not_false_iff, if_true, if_false, eq_self, n0, if_true]
    have := fin τ' (hoursS oh ng nd nc h g 201).1 (hoursS oh ng nd nc h g 201).2 f2
    exact F (fun n hn => hno n (by omega)) _ this.1 this.2
theorem w_undo {s : Sy} (hG : Gd (s, H, sv, y0, d0, r)) (hC : CI σ (s, H, sv, y0, d0, r)) (F : H = [] → K (.inl (some (.int (jI 1)))) (MM Ln σ lo db))
    (HH : ∀ t H', H = t :: H' → ∀ σ', CI σ' (t, H', sv, y0, d0, r) → PC σ σ' → K (.inl (some (.int (jI 0)))) (MM Ln σ' (u2 lo 377 0 (jI H'.length).toInt64) db)) :
    Ev 212 (0, [.ref 0, .ref 377, .null], [], 0, 0, MM Ln σ lo db) K := by
  obtain ⟨p, p1, p2, p3, p4, p5⟩ := hC.2.1
  have e1 : σ 94 1 = jI H.length := p4
  simp (disch := first | assumption | omega) only [s_212_0, s_212_1, s_212_2, s_212_3, r_212_3, rt_212_3_4, s_212_6, s_212_7, s_212_8, s_212_12, s_212_13, s_212_14, s_212_15, s_102_0, s_102_1, s_102_4, s_102_7, s_102_10, s_102_21, s_102_22, s_102_25, s_102_26, s_102_29, r_102_29, s_102_32, s_102_33, s_102_36, s_102_39, jI_mul, jI_add, jI_tnc, jI_ixT, true_and, and_true, bZ_0, bZ_1, bZ_b, jI_nz, jI_div, jI_rem, jI_mod, Nat.add_zero, bI_if, not_false_iff, if_true, if_false, eq_self, e1]
  cases H with
  | nil =>
    rw [if_pos (show jI ([] : List Sy).length = jI 0 from rfl)]
    exact F rfl
  | cons t H' =>
    have hl : (t :: H').length ≤ 8 := p2
    have n0 : ¬ jI (t :: H').length = jI 0 := fun e => by
      have := (jI_inj (by omega) (by omega)).mp e
      rw [List.length_cons] at this
      omega
    rw [if_neg n0]
    refine c_giveBack hG hC (fun τ t1 t2 => ?_)
    obtain ⟨q, q1, q2, q3, q4, q5⟩ := t1.2.1
    have e2 : τ 94 1 = jI H'.length := q4
    simp (disch := first | assumption | omega) only [s_212_0, s_212_1, s_212_2, s_212_3, r_212_3, rt_212_3_4, s_212_6, s_212_7, s_212_8, s_212_12, s_212_13, s_212_14, s_212_15, s_102_0, s_102_1, s_102_4, s_102_7, s_102_10, s_102_21, s_102_22, s_102_25, s_102_26, s_102_29, r_102_29, s_102_32, s_102_33, s_102_36, s_102_39, jI_mul, jI_add, jI_tnc, jI_ixT, true_and, and_true, bZ_0, bZ_1, bZ_b, jI_nz, jI_div, jI_rem, jI_mod, Nat.add_zero, bI_if, not_false_iff, if_true, if_false, eq_self, e2]
    exact HH t H' rfl _ t1 t2
theorem w_restore {s : Sy} (hG : Gd (s, H, sv, y0, d0, r)) (hC : CI σ (s, H, sv, y0, d0, r)) (F : sv = none → K (.inl (some (.int (jI 1)))) (MM Ln σ lo db))
    (HH : ∀ t, sv = some t → ∀ σ', CI σ' (t, [], sv, y0, d0, r) → PC σ σ' → K (.inl (some (.int (jI 0)))) (MM Ln σ' (u2 lo 377 0 (jI t.2.2.2.1).toInt64) db)) :
    Ev 213 (0, [.ref 0, .ref 377, .null], [], 0, 0, MM Ln σ lo db) K := by
  have hD1 := DI_1
  have hD63 := DI_63
  have e3 : σ 0 3 = bI (sv.isSome = true) := hC.2.2.1
  simp (disch := first | assumption | omega) only [s_213_0, s_213_1, s_213_2, s_213_3, r_213_3, rt_213_3_4, s_213_6, s_213_7, s_213_8, s_213_12, s_213_13, s_213_14, s_213_15, s_104_0, s_104_1, s_104_4, s_104_7, s_104_18, s_104_19, s_104_22, s_104_23, s_104_26, r_104_26, s_104_29, s_104_30, s_104_33, s_104_34, s_104_37, s_104_38, s_104_41, s_104_44, jI_mul, jI_add, jI_tnc, jI_ixT, true_and, and_true, bZ_0, bZ_1, bZ_b, jI_nz, jI_div, jI_rem, jI_mod, Nat.add_zero, bI_if, not_false_iff, if_true, if_false, eq_self, e3]
  cases sv with
  | none =>
    rw [if_neg (by decide)]
    exact F rfl
  | some t =>
    rw [if_pos (show (some t).isSome = true from rfl)]
    have ht : RDs σ 63 t := hC.2.2.2.1 t rfl
    have hBt : Cbs t := hG.2.2 t rfl
    refine c_copy (o1 := 1) (o2 := 63) hD1 hD63 (by decide) ht hBt (fun τ t1 f1 => ?_)
    have hCI : CI τ (t, H, some t, y0, d0, r) := CI_curF (s' := t) hG hC t1 f1
    have hG' : Gd (t, H, some t, y0, d0, r) := ⟨hBt, hG.2⟩
    have hm : ∀ a, a ≠ 94 → u2 τ 94 1 (jI 0) a = τ a := fun a ha => by funext k; exact u2_na ha
    have e1 : u2 τ 94 1 (jI 0) 1 7 = jI t.2.2.2.1 := by
      rw [hm 1 (by decide)]
      exact (R_s7 t1.1).trans hBt.2.2.2.2.2.1
    simp (disch := first | assumption | omega) only [s_213_0, s_213_1, s_213_2, s_213_3, r_213_3, rt_213_3_4, s_213_6, s_213_7, s_213_8, s_213_12, s_213_13, s_213_14, s_213_15, s_104_0, s_104_1, s_104_4, s_104_7, s_104_18, s_104_19, s_104_22, s_104_23, s_104_26, r_104_26, s_104_29, s_104_30, s_104_33, s_104_34, s_104_37, s_104_38, s_104_41, s_104_44, jI_mul, jI_add, jI_tnc, jI_ixT, true_and, and_true, bZ_0, bZ_1, bZ_b, jI_nz, jI_div, jI_rem, jI_mod, Nat.add_zero, bI_if, not_false_iff, if_true, if_false, eq_self, e1]
    obtain ⟨c1, ⟨p, p1, p2, p3, p4, p5⟩, c3, c4, c5, c6, c7, c8⟩ := hCI
    refine HH t rfl _ ⟨RDs_cg hBt c1 (fun a h1 h2 => hm a (by omega)), ⟨p, p1, Nat.zero_le _, ?_, ?_, fun j s hj => ?_⟩, ?_, fun t' ht' => ?_, ?_, ?_, INC_cg c7 ?_ ?_, ?_⟩ (fun a ha => (hm a (by omega)).trans (f1 a (by omega)))
    · rw [u2_nk (by decide)]; exact p3
    · exact u2_at
    · rw [List.getElem?_nil] at hj; cases hj
    · rw [hm 0 (by decide)]; exact c3
    · exact RDs_cg (hG'.2.2 t' ht') (c4 t' ht') (fun a h1 h2 => hm a (by omega))
    · rw [hm 367 (by decide)]; exact c5
    · rw [hm 367 (by decide)]; exact c6
    · rw [hm 344 (by decide)]
    · exact hm 345 (by decide)
    · rw [hm 0 (by decide)]; exact c8
theorem w_save {s : Sy} (hG : Gd (s, H, sv, y0, d0, r)) (hC : CI σ (s, H, sv, y0, d0, r)) (HH : ∀ σ', CI σ' (s, H, some s, y0, d0, r) → PC σ σ' → K (.inl (some (.int (jI s.2.2.2.1)))) (MM Ln σ' lo db)) :
    Ev 103 (0, [.ref 0], [], 0, 0, MM Ln σ lo db) K := by
  have hD1 := DI_1
  have hD63 := DI_63
  have hBs : Cbs s := hG.1
  simp (disch := first | assumption | omega) only [s_103_0, s_103_1, s_103_4, s_103_5, s_103_8, r_103_8, s_103_11, s_103_12, s_103_13, s_103_16, s_103_17, s_103_20, s_103_23, jI_mul, jI_add, jI_tnc, jI_ixT, true_and, and_true, bZ_0, bZ_1, bZ_b, jI_nz, jI_div, jI_rem, jI_mod, Nat.add_zero, bI_if, not_false_iff, if_true, if_false, eq_self]
  refine c_copy (o1 := 63) (o2 := 1) hD63 hD1 (by decide) hC.1 hBs (fun τ t1 f1 => ?_)
  have hm : ∀ a, a ≠ 0 → u2 τ 0 3 (jI 1) a = τ a := fun a ha => by funext k; exact u2_na ha
  have h1 : RDs τ 1 s := RDs_cg hBs hC.1 (fun a h1 h2 => f1 a (by omega))
  have e1 : u2 τ 0 3 (jI 1) 1 7 = jI s.2.2.2.1 := by
    rw [hm 1 (by decide)]
    exact (R_s7 h1.1).trans hBs.2.2.2.2.2.1
  simp (disch := first | assumption | omega) only [s_103_0, s_103_1, s_103_4, s_103_5, s_103_8, r_103_8, s_103_11, s_103_12, s_103_13, s_103_16, s_103_17, s_103_20, s_103_23, jI_mul, jI_add, jI_tnc, jI_ixT, true_and, and_true, bZ_0, bZ_1, bZ_b, jI_nz, jI_div, jI_rem, jI_mod, Nat.add_zero, bI_if, not_false_iff, if_true, if_false, eq_self, e1]
  obtain ⟨c1, ⟨p, p1, p2, p3, p4, p5⟩, c3, c4, c5, c6, c7, c8⟩ := hC
  have hf : ∀ a, a ≠ 0 → (a < 63 ∨ 94 ≤ a) → u2 τ 0 3 (jI 1) a = σ a := fun a h1 h2 => (hm a h1).trans (f1 a h2)
  refine HH _ ⟨RDs_cg hBs c1 (fun a h1 h2 => hf a (by omega) (by omega)), ⟨p, p1, p2, ?_, ?_, fun j t hj => ?_⟩, ?_, fun t' ht' => ?_, ?_, ?_, INC_cg c7 ?_ ?_, ?_⟩ (fun a ha => hf a (by omega) (by omega))
  · rw [hf 94 (by decide) (by omega)]; exact p3
  · rw [hf 94 (by decide) (by omega)]; exact p4
  · have hb := kD_b (i := (p + 7 - j) % 8) (by omega)
    exact RDs_cg (hG.2.1 t (List.mem_of_getElem? hj)) (p5 j t hj) (fun a h1 h2 => hf a (by omega) (by omega))
  · exact u2_at
  · cases ht'
    exact RDs_cg hBs t1 (fun a h1 h2 => hm a (by omega))
  · rw [hf 367 (by decide) (by omega)]; exact c5
  · rw [hf 367 (by decide) (by omega)]; exact c6
  · rw [hf 344 (by decide) (by omega)]
  · exact hf 345 (by decide) (by omega)
  · rw [u2_nk (by decide), f1 0 (by omega)]; exact c8
end
