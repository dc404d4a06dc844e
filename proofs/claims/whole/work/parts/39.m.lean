/-! THE REFERENCE: undo, restore, refusal, complaint -/
set_option maxRecDepth 16384
section
variable {K : Ou → Me → Prop} {Ln : Nat} {σ : Nat → Nat → Int32} {g : Gr} {lo : Nat → Nat → Int64} {db : Nat → Nat → UInt64} {μ : Me} {ch : Nat} {wi : Bool} {oh : Nat → Nat → Bool} {ng nd nc h : Nat}
theorem m_undo (hc : σ 368 6 = jI ch) (hch : ch ≤ 8) (F1 : ch = 0 → K (.inl (some (.int (jI 0)))) (MM Ln (MG (u2 σ 368 8 (jI 1)) g) lo db))
    (H : ∀ n, ch = n + 1 → K (.inl (some (.int (jI n)))) (MM Ln (cpy (MG (u2 (u2 σ 368 8 (jI 0)) 368 6 (jI n)) g) 370 (199 * n) 369 0 199) lo db)) : Ev 182 (0, [.ref 368], [], 0, 0, MM Ln (MG σ g) lo db) K := by
  have a6 : ∀ {v}, u2 σ 368 8 v 368 6 = jI ch := fun {v} => (u2_nk (by decide)).trans hc
  simp (disch := omega) only [s_182_0, s_182_1, s_182_2, s_182_5, s_182_8, s_182_9, s_182_12, s_182_13, r_182_13, s_182_16, s_182_19, s_182_20, s_182_21, s_182_22, s_182_23, s_182_26, s_182_27, s_182_28, s_182_31, s_182_32, s_182_35, s_182_38, s_182_39, s_182_42, s_182_43, s_182_44, s_182_47, s_182_48, r_182_48, s_182_51, s_182_52, s_182_55, jI_mul, jI_add, jI_tnc, jI_ixT, true_and, and_true, bZ_0, bZ_1, bZ_b, jI_nz, jI_div, jI_rem, jI_mod, Nat.add_zero, bI_if, not_false_iff, if_true, if_false, eq_self, MG_o, hc]
  rcases Nat.eq_zero_or_pos ch with rfl | hp
  · simp (disch := omega) only [s_182_0, s_182_1, s_182_2, s_182_5, s_182_8, s_182_9, s_182_12, s_182_13, r_182_13, s_182_16, s_182_19, s_182_20, s_182_21, s_182_22, s_182_23, s_182_26, s_182_27, s_182_28, s_182_31, s_182_32, s_182_35, s_182_38, s_182_39, s_182_42, s_182_43, s_182_44, s_182_47, s_182_48, r_182_48, s_182_51, s_182_52, s_182_55, jI_mul, jI_add, jI_tnc, jI_ixT, true_and, and_true, bZ_0, bZ_1, bZ_b, jI_nz, jI_div, jI_rem, jI_mod, Nat.add_zero, bI_if, not_false_iff, if_true, if_false, eq_self, m_fail1]
    exact F1 rfl
  · obtain ⟨n, rfl⟩ : ∃ n, ch = n + 1 := ⟨ch - 1, by omega⟩
    have n0 : (jI (n + 1) = jI 0) = False := jI_nz (by omega) (by omega)
    have e : ∀ σ, cpy σ 370 (199 * n) 369 0 199 368 6 = σ 368 6 := fun σ => if_neg (by omega)
    simp (disch := omega) only [n0, s_182_0, s_182_1, s_182_2, s_182_5, s_182_8, s_182_9, s_182_12, s_182_13, r_182_13, s_182_16, s_182_19, s_182_20, s_182_21, s_182_22, s_182_23, s_182_26, s_182_27, s_182_28, s_182_31, s_182_32, s_182_35, s_182_38, s_182_39, s_182_42, s_182_43, s_182_44, s_182_47, s_182_48, r_182_48, s_182_51, s_182_52, s_182_55, jI_mul, jI_add, jI_tnc, jI_ixT, true_and, and_true, bZ_0, bZ_1, bZ_b, jI_nz, jI_div, jI_rem, jI_mod, Nat.add_zero, bI_if, not_false_iff, if_true, if_false, eq_self, m_fail0, MG_o, a6, MG_uo, jI_sub, Nat.add_sub_cancel, u2_at, m_copies KD_M1 KD_M0 (by decide : 370 ≠ 369) (show 199 * n + 199 ≤ 1592 by omega) (by decide : 0 + 199 ≤ 199) (by decide) (by decide), e]
    exact H n rfl
theorem m_restore {sv : Bool} (hs5 : σ 368 5 = bI (sv = true)) (F1 : sv = false → K (.inl (some (.int (jI 0)))) (MM Ln (MG (u2 σ 368 8 (jI 1)) g) lo db))
    (H : sv = true → K (.inl (some (.int (σ 371 4)))) (MM Ln (u2 (cpy (MG (u2 σ 368 8 (jI 0)) g) 371 0 369 0 199) 368 6 (jI 0)) lo db)) : Ev 184 (0, [.ref 368], [], 0, 0, MM Ln (MG σ g) lo db) K := by
  cases sv with
  | false =>
    have h5 : σ 368 5 = jI 0 := hs5
    simp (disch := omega) only [s_184_0, s_184_1, s_184_2, s_184_5, s_184_8, s_184_9, s_184_12, s_184_13, r_184_13, s_184_16, s_184_19, s_184_20, s_184_21, s_184_22, s_184_25, s_184_26, s_184_27, s_184_30, s_184_31, r_184_31, s_184_34, s_184_35, s_184_36, s_184_39, s_184_40, s_184_43, s_184_44, s_184_45, jI_mul, jI_add, jI_tnc, jI_ixT, true_and, and_true, bZ_0, bZ_1, bZ_b, jI_nz, jI_div, jI_rem, jI_mod, Nat.add_zero, bI_if, not_false_iff, if_true, if_false, eq_self, MG_o, h5, m_fail1]
    exact F1 rfl
  | true =>
    have h5 : σ 368 5 = jI 1 := hs5
    have n0 : (jI 1 = jI 0) = False := jI_nz (by omega) (by omega)
    have e : u2 (cpy (MG (u2 σ 368 8 (jI 0)) g) 371 0 369 0 199) 368 6 (jI 0) 369 4 = σ 371 4 := by
      rw [u2_na (by decide)]
      unfold cpy
      rw [if_pos (by omega), MG_o (by decide), u2_na (by decide)]
    simp (disch := omega) only [s_184_0, s_184_1, s_184_2, s_184_5, s_184_8, s_184_9, s_184_12, s_184_13, r_184_13, s_184_16, s_184_19, s_184_20, s_184_21, s_184_22, s_184_25, s_184_26, s_184_27, s_184_30, s_184_31, r_184_31, s_184_34, s_184_35, s_184_36, s_184_39, s_184_40, s_184_43, s_184_44, s_184_45, jI_mul, jI_add, jI_tnc, jI_ixT, true_and, and_true, bZ_0, bZ_1, bZ_b, jI_nz, jI_div, jI_rem, jI_mod, Nat.add_zero, bI_if, not_false_iff, if_true, if_false, eq_self, MG_o, h5, n0, m_fail0, m_copies KD_M2 KD_M0 (by decide : 371 ≠ 369) (by decide : 0 + 199 ≤ 199) (by decide : 0 + 199 ≤ 199) (by decide) (by decide), e]
    exact H rfl
theorem m_refusal {p : Prop} [Decidable p] : Ev 175 (0, [.ref 368, .int (bI p)], [], 0, 0, MM Ln (MG σ g) lo db) K ↔
    if σ 368 10 = jI 0 then K (.inl (some (.int (jI 0)))) (MM Ln (MG (u2 σ 368 8 (jI 1)) g) lo db) else if p then K (.inl (some (.int (σ 368 11)))) (MM Ln (MG (u2 σ 368 8 (jI 0)) g) lo db) else K (.inl (some (.int (σ 368 10)))) (MM Ln (MG (u2 σ 368 8 (jI 0)) g) lo db) := by
  have e1 : ∀ v, u2 σ 368 8 v 368 11 = σ 368 11 := fun v => u2_nk (by decide)
  have e2 : ∀ v, u2 σ 368 8 v 368 10 = σ 368 10 := fun v => u2_nk (by decide)
  simp (disch := omega) only [s_175_0, s_175_1, s_175_2, s_175_5, s_175_8, s_175_9, s_175_12, s_175_13, r_175_13, s_175_16, s_175_19, s_175_20, s_175_23, s_175_24, s_175_27, s_175_28, s_175_31, s_175_34, s_175_35, s_175_38, jI_mul, jI_add, jI_tnc, jI_ixT, true_and, and_true, bZ_0, bZ_1, bZ_b, jI_nz, jI_div, jI_rem, jI_mod, Nat.add_zero, bI_if, not_false_iff, if_true, if_false, eq_self, MG_o, m_fail0, m_fail1, e1, e2]
end
