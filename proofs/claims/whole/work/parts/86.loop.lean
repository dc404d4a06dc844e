/-! THE LAW: the loop -/
set_option maxRecDepth 16384
section
variable {K : Ou → Me → Prop} {Ln : Nat} {σ : Nat → Nat → Int32} {lo : Nat → Nat → Int64} {db : Nat → Nat → UInt64} {i k s N : Nat} {G : Ga} {scr : Nat → Int32} {v6 v7 v8 : Value}
theorem and31 (x : Int32) : ∃ n, n < 32 ∧ x &&& jI 31 = jI n := ⟨x.toBitVec.toNat % 32, Nat.mod_lt _ (by decide), by
  apply Int32.toBitVec_inj.mp
  rw [Int32.toBitVec_and]
  apply BitVec.eq_of_toNat_eq
  rw [BitVec.toNat_and]
  show x.toBitVec.toNat &&& (2 ^ 5 - 1) = (BitVec.ofNat 32 (x.toBitVec.toNat % 32)).toNat
  rw [Nat.and_two_pow_sub_one_eq_mod, BitVec.toNat_ofNat]
  omega⟩
theorem L_step (hL : LInv N σ G) (hN : N ≤ 100000000) (hi : i + 4 < Ln) (hLn : Ln ≤ 100000) (hsc : σ SCR = scr) (hk : k ≤ 603000) (hs : s ≤ 7207000) (HN : NXT N Ln i k s scr K) :
    Ev 214 (28, [.ref SCR, .ref 0, .ref 368, .ref 377, .ref 378, .int (jI i), v6, v7, v8], [], k, s, MM Ln σ lo db) K := by
  simp (disch := first | assumption | omega) only [s_214_28, s_214_30, s_214_31, s_214_32, s_214_33, s_214_34, s_214_37, s_214_38, s_214_40, s_214_41, s_214_43, jI_mul, jI_add, jI_tnc, jI_ixT, true_and, and_true, bZ_0, bZ_1, bZ_b, jI_nz, jI_div, jI_rem, jI_mod, Nat.add_zero, bI_if, not_false_iff, if_true, if_false, eq_self, jI_sub]
  first | rw [if_neg (show ¬ Ln - 5 < i by omega)] | rw [if_neg (show ¬ jI (Ln - 5) < jI i by rw [jI_lt (by omega) (by omega)]; omega)]
  obtain ⟨n, hn, en⟩ := and31 (σ SCR i)
  simp (disch := first | assumption | omega) only [s_214_37, s_214_38, s_214_40, s_214_41, s_214_43, jI_mul, jI_add, jI_tnc, jI_ixT, true_and, and_true, bZ_0, bZ_1, bZ_b, jI_nz, jI_div, jI_rem, jI_mod, Nat.add_zero, bI_if, not_false_iff, if_true, if_false, eq_self, en, true_and]
  obtain rfl | rfl | rfl | rfl | rfl | rfl | rfl | rfl | rfl | rfl | rfl | rfl | rfl | rfl | rfl | rfl | rfl | rfl | rfl | rfl | rfl | rfl | rfl | rfl | rfl | rfl | rfl | rfl | rfl | rfl | rfl | rfl : n = 0 ∨ n = 1 ∨ n = 2 ∨ n = 3 ∨ n = 4 ∨ n = 5 ∨ n = 6 ∨ n = 7 ∨ n = 8 ∨ n = 9 ∨ n = 10 ∨ n = 11 ∨ n = 12 ∨ n = 13 ∨ n = 14 ∨ n = 15 ∨ n = 16 ∨ n = 17 ∨ n = 18 ∨ n = 19 ∨ n = 20 ∨ n = 21 ∨ n = 22 ∨ n = 23 ∨ n = 24 ∨ n = 25 ∨ n = 26 ∨ n = 27 ∨ n = 28 ∨ n = 29 ∨ n = 30 ∨ n = 31 := by omega
  · rw [s_214_44_0]; exact L_inflow hL hN hi hLn hsc hk hs HN
  · rw [s_214_44_1]; exact L_fine hL hN hi hLn hsc hk hs HN
  · rw [s_214_44_2]; exact L_gate hL hN hi hLn hsc hk hs HN
  · rw [s_214_44_3]; exact L_garden hL hN hi hLn hsc hk hs HN
  · rw [s_214_44_4]; exact L_open hL hN hi hLn hsc hk hs HN
  · rw [s_214_44_5]; exact L_pay hL hN hi hLn hsc hk hs HN
  · rw [s_214_44_6]; exact L_thief hL hN hi hLn hsc hk hs HN
  · rw [s_214_44_7]; exact L_complain hL hN hi hLn hsc hk hs HN
  · rw [s_214_44_8]; exact L_repair hL hN hi hLn hsc hk hs HN
  · rw [s_214_44_9]; exact L_pass hL hN hi hLn hsc hk hs HN
  · rw [s_214_44_10]; exact L_gateOf hL hN hi hLn hsc hk hs HN
  · rw [s_214_44_11]; exact L_nextOpen hL hN hi hLn hsc hk hs HN
  · rw [s_214_44_12]; exact L_gardenOf hL hN hi hLn hsc hk hs HN
  · rw [s_214_44_13]; exact L_thirsty hL hN hi hLn hsc hk hs HN
  · rw [s_214_44_14]; exact L_placeAgain hL hN hi hLn hsc hk hs HN
  · rw [s_214_44_15]; exact L_complaint hL hN hi hLn hsc hk hs HN
  · rw [s_214_44_16]; exact L_sign hL hN hi hLn hsc hk hs HN
  · rw [s_214_44_17]; exact L_part hL hN hi hLn hsc hk hs HN
  · rw [s_214_44_18]; exact L_ahead hL hN hi hLn hsc hk hs HN
  · rw [s_214_44_19]; exact L_dryIn hL hN hi hLn hsc hk hs HN
  · rw [s_214_44_20]; exact L_bestHour hL hN hi hLn hsc hk hs HN
  · rw [s_214_44_21]; exact L_append hL hN hi hLn hsc hk hs HN
  · rw [s_214_44_22]; exact L_read hL hN hi hLn hsc hk hs HN
  · rw [s_214_44_23]; exact L_error hL hN hi hLn hsc hk hs HN
  · rw [s_214_44_24]; exact L_refusal hL hN hi hLn hsc hk hs HN
  · rw [s_214_44_25]; exact L_account hL hN hi hLn hsc hk hs HN
  · rw [s_214_44_26]; exact L_isWell hL hN hi hLn hsc hk hs HN
  · rw [s_214_44_27]; exact L_share hL hN hi hLn hsc hk hs HN
  · rw [s_214_44_28]; exact L_mean hL hN hi hLn hsc hk hs HN
  · rw [s_214_44_29]; exact L_undo hL hN hi hLn hsc hk hs HN
  · rw [s_214_44_30]; exact L_save hL hN hi hLn hsc hk hs HN
  · rw [s_214_44_31]; exact L_restore hL hN hi hLn hsc hk hs HN
theorem L_end (hk : k ≤ 603000) (hs : s ≤ 7207000) (hi : i < 100000) (h : Ln ≤ i + 4) (HK : K (.inl (some (.int (jI 1)))) (MM Ln σ lo db)) :
    Ev 214 (28, [.ref SCR, .ref 0, .ref 368, .ref 377, .ref 378, .int (jI i), v6, v7, v8], [], k, s, MM Ln σ lo db) K := by
  have hks : k ≤ 603072 ∧ s ≤ 7207017 := by omega
  have hlt : jI Ln - jI 5 < jI i := by
    by_cases h5 : 5 ≤ Ln
    · rw [jI_sub (by omega), jI_lt (by omega) (by omega)]; omega
    · have h0 : jI Ln - jI 5 < jI 0 := by
        obtain rfl | rfl | rfl | rfl | rfl : Ln = 0 ∨ Ln = 1 ∨ Ln = 2 ∨ Ln = 3 ∨ Ln = 4 := by omega
        all_goals decide
      exact Int32.lt_of_lt_of_le h0 ((jI_le (by omega) (by omega)).mpr (Nat.zero_le _))
  simp (disch := first | assumption | omega) only [s_214_28, s_214_30, s_214_31, s_214_32, s_214_33, s_214_34, s_214_37, s_214_38, s_214_40, s_214_41, s_214_43]
  rw [if_pos hlt]
  --first | rw [if_pos (show Ln - 5 < i by omega)] | rw [if_pos (show jI (Ln - 5) < jI i by rw [jI_lt (by omega) (by omega)]; omega)]
  simp (disch := first | assumption | omega) only [s_214_2081, s_214_2082, jI_mul, jI_add, jI_tnc, jI_ixT, true_and, and_true, bZ_0, bZ_1, bZ_b, jI_nz, jI_div, jI_rem, jI_mod, Nat.add_zero, bI_if, not_false_iff, if_true, if_false, eq_self]
  exact HK
theorem L_loop {k0 s0 : Nat} (hk0 : k0 ≤ 600000) (hs0 : s0 ≤ 7200000) (hLn : Ln ≤ 2560) (HK : ∀ σ' lo' db', K (.inl (some (.int (jI 1)))) (MM Ln σ' lo' db')) : ∀ (f j : Nat) (σ : Nat → Nat → Int32) (lo : Nat → Nat → Int64) (db : Nat → Nat → UInt64) (G : Ga) (v6 v7 v8 : Value) (k s : Nat),
    Ln ≤ 5 * (j + f) + 4 → LInv (4000 * j) σ G → σ SCR = scr → k ≤ k0 + j → s ≤ s0 + 6 * j → j ≤ 512 → Ev 214 (28, [.ref SCR, .ref 0, .ref 368, .ref 377, .ref 378, .int (jI (5 * j)), v6, v7, v8], [], k, s, MM Ln σ lo db) K
  | 0, j, σ, lo, db, G, v6, v7, v8, k, s, hf, hL, hsc, hk, hs, hj => L_end (by omega) (by omega) (by omega) (by omega) (HK _ _ _)
  | f + 1, j, σ, lo, db, G, v6, v7, v8, k, s, hf, hL, hsc, hk, hs, hj => by
    by_cases h : Ln ≤ 5 * j + 4
    · exact L_end (by omega) (by omega) (by omega) h (HK _ _ _)
    · refine L_step hL (by omega) (by omega) (by omega) hsc (by omega) (by omega) (fun σ' lo' db' G' v6 v7 v8 k' s' hL' hsc' hk' hs' => ?_)
      simp (disch := first | assumption | omega) only [s_214_2075, s_214_2078, jI_mul, jI_add, jI_tnc, jI_ixT, true_and, and_true, bZ_0, bZ_1, bZ_b, jI_nz, jI_div, jI_rem, jI_mod, Nat.add_zero, bI_if, not_false_iff, if_true, if_false, eq_self]
      exact L_loop hk0 hs0 hLn HK f (j + 1) σ' lo' db' G' v6 v7 v8 k' s' (by omega) (by rw [show 4000 * (j + 1) = 4000 * j + 4000 by omega]; exact hL') hsc' (by omega) (by omega) (by omega)
end
