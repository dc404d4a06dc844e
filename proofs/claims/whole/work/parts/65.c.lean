/-! THE CLASS: a ditch is copied; gates and gardens are added -/
set_option maxRecDepth 16384
section
variable {K : Ou → Me → Prop} {Ln : Nat} {σ : Nat → Nat → Int32} {g g1 : Gr} {lo : Nat → Nat → Int64} {db : Nat → Nat → UInt64} {μ : Me} {oh : Nat → Nat → Bool} {o o1 o2 ng nd nc h i k a c : Nat}
/-- what the cells at o hold, as numbers -/
def VW (σ : Nat → Nat → Int32) (o : Nat) : Gr := fun c =>
  if c < 3 then σ o (c + 9) else if c < 6 then σ o (c + 3) else if c = 6 then σ o 12 else if c < 15 then σ (o + 6) (c - 7)
  else if c < 75 then σ (o + 7 + 2 * ((c - 15) / 10)) ((c - 15) % 10 + 1) else if c < 183 then σ (o + 19 + (c - 75) / 9) ((c - 75) % 9)
  else if (c - 183) % 2 = 0 then σ (o + 3) ((c - 183) / 2) else σ (o + 4) ((c - 183) / 2)
theorem VW_ix (hng : ng ≤ 6) (hnd : nd ≤ 12) (e : ixL o ng nd nc a k = some c) : VW σ o c = σ a k := by
  unfold ixL at e
  unfold VW
  split at e
  · next q =>
    simp only [Option.some.injEq] at e
    split at e
    · rw [if_neg (by omega), if_pos (by omega), q.1]; congr 1; omega
    · split at e
      · rw [if_pos (by omega), q.1]; congr 1; omega
      · rw [if_neg (by omega), if_neg (by omega), if_pos (by omega), q.1]; congr 1; omega
  · split at e
    · next q =>
      simp only [Option.some.injEq] at e
      rw [if_neg (by omega), if_neg (by omega), if_neg (by omega), if_pos (by omega), q.1]; congr 1; omega
    · split at e
      · next q =>
        simp only [Option.some.injEq] at e
        rw [if_neg (by omega), if_neg (by omega), if_neg (by omega), if_neg (by omega), if_pos (by omega)]; congr 1 <;> omega
      · split at e
        · next q =>
          simp only [Option.some.injEq] at e
          rw [if_neg (by omega), if_neg (by omega), if_neg (by omega), if_neg (by omega), if_neg (by omega), if_pos (by omega)]; congr 1 <;> omega
        · split at e
          · next q =>
            simp only [Option.some.injEq] at e
            rw [if_neg (by omega), if_neg (by omega), if_neg (by omega), if_neg (by omega), if_neg (by omega), if_neg (by omega), if_pos (by omega), q.1]; congr 1; omega
          · split at e
            · next q =>
              simp only [Option.some.injEq] at e
              rw [if_neg (by omega), if_neg (by omega), if_neg (by omega), if_neg (by omega), if_neg (by omega), if_neg (by omega), if_neg (by omega), q.1]; congr 1; omega
            · cases e
/-- any memory is laid from what it holds -/
theorem LD_VW (hng : ng ≤ 6) (hnd : nd ≤ 12) : LD σ o (VW σ o) ng nd nc = σ := by
  funext a k
  unfold LD
  cases e : ixL o ng nd nc a k with
  | none => rfl
  | some c => exact VW_ix hng hnd e
theorem DI_sep (h1 : DI o1) (h2 : DI o2) (hne : o1 ≠ o2) : o1 + 31 ≤ o2 ∨ o2 + 31 ≤ o1 := by
  unfold DI kD at h1 h2
  rcases h1 with rfl | rfl | rfl | ⟨i, hi, rfl⟩ <;> rcases h2 with rfl | rfl | rfl | ⟨j, hj, rfl⟩ <;> omega
section
variable {nc' : Nat} (hng : ng ≤ 6) (hnd : nd ≤ 12)
theorem LX_s (hd : o1 + 31 ≤ o2 ∨ o2 + 31 ≤ o1) (hng : ng ≤ 6) (hnd : nd ≤ 12) : LD σ o1 g ng nd nc o2 k = σ o2 k := LD_out hng hnd (by omega)
theorem LX_b (hd : o1 + 31 ≤ o2 ∨ o2 + 31 ≤ o1) (hng : ng ≤ 6) (hnd : nd ≤ 12) : LD σ o1 g ng nd nc (bkA o2) k = σ (bkA o2) k := LD_out hng hnd (by unfold bkA; omega)
theorem LX_g (hd : o1 + 31 ≤ o2 ∨ o2 + 31 ≤ o1) (hng : ng ≤ 6) (hnd : nd ≤ 12) (hi : i < 6) : LD σ o1 g ng nd nc (gA o2 i) k = σ (gA o2 i) k := LD_out hng hnd (by unfold gA; omega)
theorem LX_oh (hd : o1 + 31 ≤ o2 ∨ o2 + 31 ≤ o1) (hng : ng ≤ 6) (hnd : nd ≤ 12) (hi : i < 6) : LD σ o1 g ng nd nc (ohA o2 i) k = σ (ohA o2 i) k := LD_out hng hnd (by unfold ohA; omega)
theorem LX_n (hd : o1 + 31 ≤ o2 ∨ o2 + 31 ≤ o1) (hng : ng ≤ 6) (hnd : nd ≤ 12) (hi : i < 12) : LD σ o1 g ng nd nc (nA o2 i) k = σ (nA o2 i) k := LD_out hng hnd (by unfold nA; omega)
theorem LX_cp (hd : o1 + 31 ≤ o2 ∨ o2 + 31 ≤ o1) (hng : ng ≤ 6) (hnd : nd ≤ 12) : LD σ o1 g ng nd nc (cpA o2) k = σ (cpA o2) k := LD_out hng hnd (by unfold cpA; omega)
theorem LX_ac (hd : o1 + 31 ≤ o2 ∨ o2 + 31 ≤ o1) (hng : ng ≤ 6) (hnd : nd ≤ 12) : LD σ o1 g ng nd nc (acA o2) k = σ (acA o2) k := LD_out hng hnd (by unfold acA; omega)
end
/-- the first c numbers of g, the rest of g1 -/
def mgS (g g1 : Gr) (n : Nat) : Gr := fun c => if c < n then g c else g1 c
theorem R_s6 (hR : LD σ o g ng nd nc = σ) : σ o 6 = g 3 := by rw [← hR]; exact LD_s6
theorem R_s7 (hR : LD σ o g ng nd nc = σ) : σ o 7 = g 4 := by rw [← hR]; exact LD_s7
theorem R_s8 (hR : LD σ o g ng nd nc = σ) : σ o 8 = g 5 := by rw [← hR]; exact LD_s8
theorem R_s9 (hR : LD σ o g ng nd nc = σ) : σ o 9 = g 0 := by rw [← hR]; exact LD_s9
theorem R_s10 (hR : LD σ o g ng nd nc = σ) : σ o 10 = g 1 := by rw [← hR]; exact LD_s10
theorem R_s11 (hR : LD σ o g ng nd nc = σ) : σ o 11 = g 2 := by rw [← hR]; exact LD_s11
theorem R_s12 (hR : LD σ o g ng nd nc = σ) : σ o 12 = g 6 := by rw [← hR]; exact LD_s12
theorem R_b0 (hR : LD σ o g ng nd nc = σ) : σ (bkA o) 0 = g 7 := by rw [← hR]; exact LD_b0
theorem R_b1 (hR : LD σ o g ng nd nc = σ) : σ (bkA o) 1 = g 8 := by rw [← hR]; exact LD_b1
theorem R_b2 (hR : LD σ o g ng nd nc = σ) : σ (bkA o) 2 = g 9 := by rw [← hR]; exact LD_b2
theorem R_b3 (hR : LD σ o g ng nd nc = σ) : σ (bkA o) 3 = g 10 := by rw [← hR]; exact LD_b3
theorem R_b4 (hR : LD σ o g ng nd nc = σ) : σ (bkA o) 4 = g 11 := by rw [← hR]; exact LD_b4
theorem R_b5 (hR : LD σ o g ng nd nc = σ) : σ (bkA o) 5 = g 12 := by rw [← hR]; exact LD_b5
theorem R_b6 (hR : LD σ o g ng nd nc = σ) : σ (bkA o) 6 = g 13 := by rw [← hR]; exact LD_b6
theorem R_b7 (hR : LD σ o g ng nd nc = σ) : σ (bkA o) 7 = g 14 := by rw [← hR]; exact LD_b7
theorem R_g1 (hR : LD σ o g ng nd nc = σ) (hi : i < ng) : σ (gA o i) 1 = g (15 + 10 * i) := by rw [← hR]; exact LD_g1 hi
theorem R_g2 (hR : LD σ o g ng nd nc = σ) (hi : i < ng) : σ (gA o i) 2 = g (15 + 10 * i + 1) := by rw [← hR]; exact LD_g2 hi
theorem R_g3 (hR : LD σ o g ng nd nc = σ) (hi : i < ng) : σ (gA o i) 3 = g (15 + 10 * i + 2) := by rw [← hR]; exact LD_g3 hi
theorem R_g4 (hR : LD σ o g ng nd nc = σ) (hi : i < ng) : σ (gA o i) 4 = g (15 + 10 * i + 3) := by rw [← hR]; exact LD_g4 hi
theorem R_n0 (hR : LD σ o g ng nd nc = σ) (hng : ng ≤ 6) (hi : i < nd) : σ (nA o i) 0 = g (75 + 9 * i) := by rw [← hR]; exact LD_n0 hng hi
theorem R_n1 (hR : LD σ o g ng nd nc = σ) (hng : ng ≤ 6) (hi : i < nd) : σ (nA o i) 1 = g (75 + 9 * i + 1) := by rw [← hR]; exact LD_n1 hng hi
theorem R_n2 (hR : LD σ o g ng nd nc = σ) (hng : ng ≤ 6) (hi : i < nd) : σ (nA o i) 2 = g (75 + 9 * i + 2) := by rw [← hR]; exact LD_n2 hng hi
theorem R_n3 (hR : LD σ o g ng nd nc = σ) (hng : ng ≤ 6) (hi : i < nd) : σ (nA o i) 3 = g (75 + 9 * i + 3) := by rw [← hR]; exact LD_n3 hng hi
theorem R_n4 (hR : LD σ o g ng nd nc = σ) (hng : ng ≤ 6) (hi : i < nd) : σ (nA o i) 4 = g (75 + 9 * i + 4) := by rw [← hR]; exact LD_n4 hng hi
theorem R_n5 (hR : LD σ o g ng nd nc = σ) (hng : ng ≤ 6) (hi : i < nd) : σ (nA o i) 5 = g (75 + 9 * i + 5) := by rw [← hR]; exact LD_n5 hng hi
theorem R_n6 (hR : LD σ o g ng nd nc = σ) (hng : ng ≤ 6) (hi : i < nd) : σ (nA o i) 6 = g (75 + 9 * i + 6) := by rw [← hR]; exact LD_n6 hng hi
theorem R_n7 (hR : LD σ o g ng nd nc = σ) (hng : ng ≤ 6) (hi : i < nd) : σ (nA o i) 7 = g (75 + 9 * i + 7) := by rw [← hR]; exact LD_n7 hng hi
theorem R_n8 (hR : LD σ o g ng nd nc = σ) (hng : ng ≤ 6) (hi : i < nd) : σ (nA o i) 8 = g (75 + 9 * i + 8) := by rw [← hR]; exact LD_n8 hng hi
theorem R_cp (hR : LD σ o g ng nd nc = σ) (hi : i < nc) : σ (cpA o) i = g (183 + 2 * i) := by rw [← hR]; exact LD_cp hi
theorem R_ac (hR : LD σ o g ng nd nc = σ) (hi : i < nc) : σ (acA o) i = g (184 + 2 * i) := by rw [← hR]; exact LD_ac hi
theorem Ev_cg {g' : Gr} {m pc kk ss : Nat} {L : Lc} {st : List Value} (hng : ng ≤ 6) (hnd : nd ≤ 12) (hnc : nc ≤ 8) (h : ∀ k, (k < 15 ∨ (15 ≤ k ∧ k < 15 + 10 * ng ∧ (k - 15) % 10 < 4) ∨ (75 ≤ k ∧ k < 75 + 9 * nd) ∨ (183 ≤ k ∧ k < 183 + 2 * nc)) → g' k = g k) (H : Ev m (pc, L, st, kk, ss, MM Ln (LD σ o g ng nd nc) lo db) K) : Ev m (pc, L, st, kk, ss, MM Ln (LD σ o g' ng nd nc) lo db) K := by
  rw [LD_cg (g := g) (g' := g') h]
  exact H
/-- the first n numbers of the row b laid into the row a -/
def cpO (σ : Nat → Nat → Int32) (b a n : Nat) : Nat → Nat → Int32 := fun x k => if x = a ∧ k < n then σ b k else σ x k
theorem cpO_0 {b a : Nat} : cpO σ b a 0 = σ := by
  funext x k
  unfold cpO
  rw [if_neg (by omega)]
theorem cpO_s {b a n : Nat} (h : b ≠ a) : u2 (cpO σ b a n) a n (cpO σ b a n b n) = cpO σ b a (n + 1) := by
  funext x k
  have e : cpO σ b a n b n = σ b n := if_neg (fun e => h e.1)
  rw [e]
  unfold u2 cpO
  by_cases h1 : x = a ∧ k = n
  · rw [if_pos h1, if_pos (by omega), h1.2]
  · rw [if_neg h1]
    by_cases h2 : x = a ∧ k < n
    · rw [if_pos h2, if_pos (by omega)]
    · rw [if_neg h2, if_neg (by omega)]
theorem cpO_o {b a n x : Nat} (h : x ≠ a) : cpO σ b a n x = σ x := by
  funext k; exact if_neg (fun e => h e.1)
theorem oh_ne (hd : o1 + 31 ≤ o2 ∨ o2 + 31 ≤ o1) {j : Nat} (hi : i < 6) (hj : j < 6) : ohA o2 i ≠ ohA o1 j := by unfold ohA; omega
theorem c_copyG (h1 : DI o1) (h2 : DI o2) (hd : o1 + 31 ≤ o2 ∨ o2 + 31 ≤ o1) (hng : ng ≤ 6) (hnd : nd ≤ 12) (hi : i < ng) : Ev 50 (0, [.ref (gA o1 i), .ref (gA o2 i), .null], [], 0, 0, MM Ln (LD σ o1 g1 ng nd nc) lo db) K ↔
    K (.inl none) (MM Ln (LD (cpO σ (ohA o2 i) (ohA o1 i) 7) o1 (gu (gu (gu (gu g1 (15 + 10 * i) (σ (gA o2 i) 1)) (15 + 10 * i + 1) (σ (gA o2 i) 2)) (15 + 10 * i + 2) (σ (gA o2 i) 3)) (15 + 10 * i + 3) (σ (gA o2 i) 4)) ng nd nc) lo db) := by
  simp (disch := first | assumption | omega) only [s_50_0, s_50_1, s_50_2, s_50_5, s_50_8, s_50_9, s_50_10, s_50_13, s_50_16, s_50_17, s_50_18, s_50_21, s_50_24, s_50_25, s_50_26, s_50_29, s_50_32, s_50_33, s_50_35, s_50_37, s_50_40, s_50_41, s_50_44, s_50_45, s_50_46, s_50_49, s_50_50, s_50_51, s_50_52, s_50_55, s_50_58, jI_mul, jI_add, jI_tnc, jI_ixT, true_and, and_true, bZ_0, bZ_1, bZ_b, jI_nz, jI_div, jI_rem, jI_mod, Nat.add_zero, bI_if, not_false_iff, if_true, if_false, eq_self, LX_g, LD_us6, LD_us7, LD_us8, LD_us9, LD_us10, LD_us11, LD_us12, LD_ub0, LD_ub1, LD_ub2, LD_ub3, LD_ub4, LD_ub5, LD_ub6, LD_ub7, LD_ug1, LD_ug2, LD_ug3, LD_ug4, LD_un0, LD_un1, LD_un2, LD_un3, LD_un4, LD_un5, LD_un6, LD_un7, LD_un8, LD_uor, LD_uoh]
  generalize (gu (gu (gu (gu g1 (15 + 10 * i) (σ (gA o2 i) 1)) (15 + 10 * i + 1) (σ (gA o2 i) 2)) (15 + 10 * i + 2) (σ (gA o2 i) 3)) (15 + 10 * i + 3) (σ (gA o2 i) 4)) = gq
  have hne : ohA o2 i ≠ ohA o1 i := oh_ne hd (by omega) (by omega)
  have step : ∀ n, n ≤ 7 → (Ev 50 (34, [.ref (gA o1 i), .ref (gA o2 i), .int (jI 0)], [], 0, 0, MM Ln (LD σ o1 gq ng nd nc) lo db) K ↔ Ev 50 (34, [.ref (gA o1 i), .ref (gA o2 i), .int (jI n)], [], 0, 0, MM Ln (LD (cpO σ (ohA o2 i) (ohA o1 i) n) o1 gq ng nd nc) lo db) K) := by
    intro n
    induction n with
    | zero => intro _; rw [cpO_0]
    | succ n ih =>
      intro hn
      rw [ih (by omega), s_50_34]
      simp (disch := first | assumption | omega) only [s_50_0, s_50_1, s_50_2, s_50_5, s_50_8, s_50_9, s_50_10, s_50_13, s_50_16, s_50_17, s_50_18, s_50_21, s_50_24, s_50_25, s_50_26, s_50_29, s_50_32, s_50_33, s_50_35, s_50_37, s_50_40, s_50_41, s_50_44, s_50_45, s_50_46, s_50_49, s_50_50, s_50_51, s_50_52, s_50_55, s_50_58, jI_mul, jI_add, jI_tnc, jI_ixT, true_and, and_true, bZ_0, bZ_1, bZ_b, jI_nz, jI_div, jI_rem, jI_mod, Nat.add_zero, bI_if, not_false_iff, if_true, if_false, eq_self, jI_le, LX_oh, LD_uoh]
      rw [if_neg (by omega), cpO_s hne]
  rw [step 7 (by omega), s_50_34]
  simp (disch := first | assumption | omega) only [s_50_0, s_50_1, s_50_2, s_50_5, s_50_8, s_50_9, s_50_10, s_50_13, s_50_16, s_50_17, s_50_18, s_50_21, s_50_24, s_50_25, s_50_26, s_50_29, s_50_32, s_50_33, s_50_35, s_50_37, s_50_40, s_50_41, s_50_44, s_50_45, s_50_46, s_50_49, s_50_50, s_50_51, s_50_52, s_50_55, s_50_58, jI_mul, jI_add, jI_tnc, jI_ixT, true_and, and_true, bZ_0, bZ_1, bZ_b, jI_nz, jI_div, jI_rem, jI_mod, Nat.add_zero, bI_if, not_false_iff, if_true, if_false, eq_self, jI_le, Nat.le_refl]
theorem c_copyN (h1 : DI o1) (h2 : DI o2) (hd : o1 + 31 ≤ o2 ∨ o2 + 31 ≤ o1) (hng : ng ≤ 6) (hnd : nd ≤ 12) (hi : i < nd) (hz : bZ (σ (nA o2 i) 5) = True) : Ev 43 (0, [.ref (nA o1 i), .ref (nA o2 i)], [], 0, 0, MM Ln (LD σ o1 g1 ng nd nc) lo db) K ↔
    K (.inl none) (MM Ln (LD σ o1 (gu (gu (gu (gu (gu (gu (gu (gu (gu g1 (75 + 9 * i) (σ (nA o2 i) 0)) (75 + 9 * i + 1) (σ (nA o2 i) 1)) (75 + 9 * i + 2) (σ (nA o2 i) 2)) (75 + 9 * i + 3) (σ (nA o2 i) 3)) (75 + 9 * i + 4) (σ (nA o2 i) 4)) (75 + 9 * i + 5) (σ (nA o2 i) 5)) (75 + 9 * i + 6) (σ (nA o2 i) 6)) (75 + 9 * i + 7) (σ (nA o2 i) 7)) (75 + 9 * i + 8) (σ (nA o2 i) 8)) ng nd nc) lo db) := by
  simp (disch := first | assumption | omega) only [s_43_0, s_43_1, s_43_2, s_43_5, s_43_8, s_43_9, s_43_10, s_43_13, s_43_16, s_43_17, s_43_18, s_43_21, s_43_24, s_43_25, s_43_26, s_43_29, s_43_32, s_43_33, s_43_34, s_43_37, s_43_40, s_43_41, s_43_42, s_43_45, s_43_48, s_43_49, s_43_50, s_43_53, s_43_56, s_43_57, s_43_58, s_43_61, s_43_64, s_43_65, s_43_66, s_43_69, s_43_72, jI_mul, jI_add, jI_tnc, jI_ixT, true_and, and_true, bZ_0, bZ_1, bZ_b, jI_nz, jI_div, jI_rem, jI_mod, Nat.add_zero, bI_if, not_false_iff, if_true, if_false, eq_self, LX_n, LD_us6, LD_us7, LD_us8, LD_us9, LD_us10, LD_us11, LD_us12, LD_ub0, LD_ub1, LD_ub2, LD_ub3, LD_ub4, LD_ub5, LD_ub6, LD_ub7, LD_ug1, LD_ug2, LD_ug3, LD_ug4, LD_un0, LD_un1, LD_un2, LD_un3, LD_un4, LD_un5, LD_un6, LD_un7, LD_un8, LD_uor, LD_uoh, hz]
theorem c_copyB (h1 : DI o1) (h2 : DI o2) (hd : o1 + 31 ≤ o2 ∨ o2 + 31 ≤ o1) (hng : ng ≤ 6) (hnd : nd ≤ 12) : Ev 1 (0, [.ref (bkA o1), .ref (bkA o2)], [], 0, 0, MM Ln (LD σ o1 g1 ng nd nc) lo db) K ↔
    K (.inl none) (MM Ln (LD σ o1 (gu (gu (gu (gu (gu (gu (gu (gu g1 7 (σ (bkA o2) 0)) 8 (σ (bkA o2) 1)) 9 (σ (bkA o2) 2)) 10 (σ (bkA o2) 3)) 11 (σ (bkA o2) 4)) 12 (σ (bkA o2) 5)) 13 (σ (bkA o2) 6)) 14 (σ (bkA o2) 7)) ng nd nc) lo db) := by
  simp (disch := first | assumption | omega) only [s_1_0, s_1_1, s_1_2, s_1_5, s_1_8, s_1_9, s_1_10, s_1_13, s_1_16, s_1_17, s_1_18, s_1_21, s_1_24, s_1_25, s_1_26, s_1_29, s_1_32, s_1_33, s_1_34, s_1_37, s_1_40, s_1_41, s_1_42, s_1_45, s_1_48, s_1_49, s_1_50, s_1_53, s_1_56, s_1_57, s_1_58, s_1_61, s_1_64, jI_mul, jI_add, jI_tnc, jI_ixT, true_and, and_true, bZ_0, bZ_1, bZ_b, jI_nz, jI_div, jI_rem, jI_mod, Nat.add_zero, bI_if, not_false_iff, if_true, if_false, eq_self, LX_b, LD_us6, LD_us7, LD_us8, LD_us9, LD_us10, LD_us11, LD_us12, LD_ub0, LD_ub1, LD_ub2, LD_ub3, LD_ub4, LD_ub5, LD_ub6, LD_ub7, LD_ug1, LD_ug2, LD_ug3, LD_ug4, LD_un0, LD_un1, LD_un2, LD_un3, LD_un4, LD_un5, LD_un6, LD_un7, LD_un8, LD_uor, LD_uoh]
theorem LD_ucp {v : Int32} (hng : ng ≤ 6) (hnd : nd ≤ 12) (hi : i < nc) : u2 (LD σ o g ng nd nc) (cpA o) i v = LD σ o (gu g (183 + 2 * i) v) ng nd nc := LD_u hng hnd (by unfold ixL cpA; rw [if_neg (by omega), if_neg (by omega), if_neg (by omega), if_neg (by omega), if_pos (by omega)])
theorem LD_uac {v : Int32} (hng : ng ≤ 6) (hnd : nd ≤ 12) (hi : i < nc) : u2 (LD σ o g ng nd nc) (acA o) i v = LD σ o (gu g (184 + 2 * i) v) ng nd nc := LD_u hng hnd (by unfold ixL acA; rw [if_neg (by omega), if_neg (by omega), if_neg (by omega), if_neg (by omega), if_neg (by omega), if_pos (by omega)])
theorem LD_dead {σ' : Nat → Nat → Int32} (h : ∀ a k, ixL o ng nd nc a k = none → σ' a k = σ a k) : LD σ' o g ng nd nc = LD σ o g ng nd nc := by
  funext a k
  unfold LD
  cases e : ixL o ng nd nc a k with
  | none => exact h a k e
  | some c => rfl
theorem LD_LD : LD (LD σ o g ng nd nc) o g ng nd nc = LD σ o g ng nd nc := LD_dead (fun a k e => LD_no e)
/-- outside a ditch -/
def Fout (o : Nat) (σ σ' : Nat → Nat → Int32) : Prop := ∀ a, (a < o ∨ o + 31 ≤ a) → σ' a = σ a
theorem c_copy (h1 : DI o1) (h2 : DI o2) (hne : o1 ≠ o2) (hR : RD σ o2 g oh ng nd nc) (hB : Cb g ng nd nc h) (H : ∀ σ', RD σ' o1 g oh ng nd nc → Fout o1 σ σ' → K (.inl none) (MM Ln σ' lo db)) :
    Ev 4 (0, [.ref o1, .ref o2, .null], [], 0, 0, MM Ln σ lo db) K := by
  have hd := DI_sep h1 h2 hne
  obtain ⟨hR, hO⟩ := hR
  obtain ⟨hng, hnd, hnc, b4, b5, b6, b7, b8, hQ⟩ := hB
  have bz : ∀ i, i < nd → bZ (σ (nA o2 i) 5) = True := fun i hi => by
    rw [R_n5 hR hng hi]
    exact eq_true ((QC_5 hng hi).mp (hQ _))
  rw [show MM Ln σ lo db = MM Ln (LD σ o1 (VW σ o1) ng nd nc) lo db by rw [LD_VW hng hnd]]
  generalize VW σ o1 = g0
  simp (disch := first | assumption | omega) only [s_4_0, s_4_1, s_4_2, s_4_5, s_4_8, s_4_9, s_4_10, s_4_13, s_4_16, s_4_17, s_4_18, s_4_21, s_4_24, s_4_25, s_4_26, s_4_29, s_4_32, s_4_33, s_4_34, s_4_37, s_4_40, s_4_41, s_4_42, s_4_45, s_4_48, s_4_49, s_4_50, s_4_53, s_4_56, s_4_57, s_4_60, s_4_61, s_4_64, r_4_64, s_4_67, s_4_68, s_4_70, s_4_71, s_4_74, s_4_77, s_4_78, s_4_81, s_4_82, s_4_83, s_4_84, s_4_87, s_4_88, s_4_89, r_4_89, s_4_92, s_4_95, s_4_98, s_4_99, s_4_101, s_4_102, s_4_105, s_4_108, s_4_109, s_4_112, s_4_113, s_4_114, s_4_115, s_4_118, s_4_119, s_4_120, r_4_120, s_4_123, s_4_126, s_4_129, s_4_130, s_4_132, s_4_133, s_4_136, s_4_139, s_4_140, s_4_143, s_4_144, s_4_145, s_4_148, s_4_149, s_4_150, s_4_151, s_4_152, s_4_155, s_4_156, s_4_157, s_4_160, s_4_161, s_4_162, s_4_163, s_4_166, s_4_169, jI_mul, jI_add, jI_tnc, jI_ixT, true_and, and_true, bZ_0, bZ_1, bZ_b, jI_nz, jI_div, jI_rem, jI_mod, Nat.add_zero, bI_if, not_false_iff, if_true, if_false, eq_self, LX_s, LD_us6, LD_us7, LD_us8, LD_us9, LD_us10, LD_us11, LD_us12, LD_ub0, LD_ub1, LD_ub2, LD_ub3, LD_ub4, LD_ub5, LD_ub6, LD_ub7, LD_ug1, LD_ug2, LD_ug3, LD_ug4, LD_un0, LD_un1, LD_un2, LD_un3, LD_un4, LD_un5, LD_un6, LD_un7, LD_un8, LD_uor, LD_uoh, c_copyB h1 h2 hd hng hnd, R_s6 hR, R_s7 hR, R_s8 hR, R_s9 hR, R_s10 hR, R_s11 hR, R_s12 hR, R_b0 hR, R_b1 hR, R_b2 hR, R_b3 hR, R_b4 hR, R_b5 hR, R_b6 hR, R_b7 hR]
  refine Ev_cg (g := mgS g g0 15) hng hnd hnc (fun k hk => ?_) ?_
  · unfold mgS
    by_cases hk2 : k < 15
    · rw [if_pos hk2]
      have : k = 0 ∨ k = 1 ∨ k = 2 ∨ k = 3 ∨ k = 4 ∨ k = 5 ∨ k = 6 ∨ k = 7 ∨ k = 8 ∨ k = 9 ∨ k = 10 ∨ k = 11 ∨ k = 12 ∨ k = 13 ∨ k = 14 := by omega
      rcases this with rfl | rfl | rfl | rfl | rfl | rfl | rfl | rfl | rfl | rfl | rfl | rfl | rfl | rfl | rfl <;> rfl
    · rw [if_neg hk2]
      simp (disch := omega) only [gu_ne]
  -- the gates
  refine lup0 ng (fun i x => ∃ σ', x = (69, [.ref o1, .ref o2, .int (jI i)], [], 0, 0, MM Ln (LD σ' o1 (mgS g g0 (15 + 10 * i)) ng nd nc) lo db) ∧ (∀ a, (∀ j, j < 6 → a ≠ ohA o1 j) → σ' a = σ a) ∧ ∀ j, j < i → ∀ d, d < 7 → σ' (ohA o1 j) d = σ (ohA o2 j) d) ⟨σ, rfl, fun _ _ => rfl, fun j hj => absurd hj (Nat.not_lt_zero j)⟩ ?_ ?_
  · rintro i x hi ⟨σ', rfl, f1, f2⟩ hn
    have e3 : mgS g g0 (15 + 10 * i) 3 = jI ng := (if_pos (by omega)).trans b5
    have eg : σ' (gA o2 i) = σ (gA o2 i) := f1 _ (fun j hj => by unfold gA ohA; omega)
    rw [s_4_69]
    simp (disch := first | assumption | omega) only [s_4_0, s_4_1, s_4_2, s_4_5, s_4_8, s_4_9, s_4_10, s_4_13, s_4_16, s_4_17, s_4_18, s_4_21, s_4_24, s_4_25, s_4_26, s_4_29, s_4_32, s_4_33, s_4_34, s_4_37, s_4_40, s_4_41, s_4_42, s_4_45, s_4_48, s_4_49, s_4_50, s_4_53, s_4_56, s_4_57, s_4_60, s_4_61, s_4_64, r_4_64, s_4_67, s_4_68, s_4_70, s_4_71, s_4_74, s_4_77, s_4_78, s_4_81, s_4_82, s_4_83, s_4_84, s_4_87, s_4_88, s_4_89, r_4_89, s_4_92, s_4_95, s_4_98, s_4_99, s_4_101, s_4_102, s_4_105, s_4_108, s_4_109, s_4_112, s_4_113, s_4_114, s_4_115, s_4_118, s_4_119, s_4_120, r_4_120, s_4_123, s_4_126, s_4_129, s_4_130, s_4_132, s_4_133, s_4_136, s_4_139, s_4_140, s_4_143, s_4_144, s_4_145, s_4_148, s_4_149, s_4_150, s_4_151, s_4_152, s_4_155, s_4_156, s_4_157, s_4_160, s_4_161, s_4_162, s_4_163, s_4_166, s_4_169, jI_mul, jI_add, jI_tnc, jI_ixT, true_and, and_true, bZ_0, bZ_1, bZ_b, jI_nz, jI_div, jI_rem, jI_mod, Nat.add_zero, bI_if, not_false_iff, if_true, if_false, eq_self, LD_s6, LD_s7, LD_s8, LD_s9, LD_s10, LD_s11, LD_s12, LD_b0, LD_b1, LD_b2, LD_b3, LD_b4, LD_b5, LD_b6, LD_b7, LD_g1, LD_g2, LD_g3, LD_g4, LD_n0, LD_n1, LD_n2, LD_n3, LD_n4, LD_n5, LD_n6, LD_n7, LD_n8, LD_cp, LD_ac, LD_or, LD_oh, LX_s, e3, jI_le, c_copyG h1 h2 hd hng hnd hi, eg, R_g1 hR, R_g2 hR, R_g3 hR, R_g4 hR]
    rw [if_neg (by omega)]
    refine Ev_cg (g := mgS g g0 (15 + 10 * (i + 1))) hng hnd hnc (fun k hk => ?_) (hn _ ⟨_, rfl, fun a ha => ?_, fun j hj d hd => ?_⟩)
    · unfold mgS
      by_cases hk3 : k < 15 + 10 * i
      · simp (disch := omega) only [gu_ne]
        rw [if_pos hk3, if_pos (by omega)]
      · by_cases hk4 : k < 15 + 10 * (i + 1)
        · rw [if_pos hk4]
          have : k = 15 + 10 * i ∨ k = 15 + 10 * i + 1 ∨ k = 15 + 10 * i + 2 ∨ k = 15 + 10 * i + 3 := by omega
          rcases this with rfl | rfl | rfl | rfl <;> simp (disch := omega) only [gu_ne, gu_at]
        · simp (disch := omega) only [gu_ne]
          rw [if_neg hk3, if_neg hk4]
    · rw [cpO_o (ha i (by omega))]; exact f1 a ha
    · by_cases hji : j = i
      · subst hji
        unfold cpO
        rw [if_pos ⟨rfl, hd⟩, f1 _ (fun q hq => oh_ne ‹o1 + 31 ≤ o2 ∨ o2 + 31 ≤ o1› (by omega) hq)]
      · rw [cpO_o (by unfold ohA; omega)]; exact f2 j (by omega) d hd
  rintro x ⟨σ', rfl, f1, f2⟩
  have e3 : mgS g g0 (15 + 10 * ng) 3 = jI ng := (if_pos (by omega)).trans b5
  rw [s_4_69]
  simp (disch := first | assumption | omega) only [s_4_0, s_4_1, s_4_2, s_4_5, s_4_8, s_4_9, s_4_10, s_4_13, s_4_16, s_4_17, s_4_18, s_4_21, s_4_24, s_4_25, s_4_26, s_4_29, s_4_32, s_4_33, s_4_34, s_4_37, s_4_40, s_4_41, s_4_42, s_4_45, s_4_48, s_4_49, s_4_50, s_4_53, s_4_56, s_4_57, s_4_60, s_4_61, s_4_64, r_4_64, s_4_67, s_4_68, s_4_70, s_4_71, s_4_74, s_4_77, s_4_78, s_4_81, s_4_82, s_4_83, s_4_84, s_4_87, s_4_88, s_4_89, r_4_89, s_4_92, s_4_95, s_4_98, s_4_99, s_4_101, s_4_102, s_4_105, s_4_108, s_4_109, s_4_112, s_4_113, s_4_114, s_4_115, s_4_118, s_4_119, s_4_120, r_4_120, s_4_123, s_4_126, s_4_129, s_4_130, s_4_132, s_4_133, s_4_136, s_4_139, s_4_140, s_4_143, s_4_144, s_4_145, s_4_148, s_4_149, s_4_150, s_4_151, s_4_152, s_4_155, s_4_156, s_4_157, s_4_160, s_4_161, s_4_162, s_4_163, s_4_166, s_4_169, jI_mul, jI_add, jI_tnc, jI_ixT, true_and, and_true, bZ_0, bZ_1, bZ_b, jI_nz, jI_div, jI_rem, jI_mod, Nat.add_zero, bI_if, not_false_iff, if_true, if_false, eq_self, LD_s6, LD_s7, LD_s8, LD_s9, LD_s10, LD_s11, LD_s12, LD_b0, LD_b1, LD_b2, LD_b3, LD_b4, LD_b5, LD_b6, LD_b7, LD_g1, LD_g2, LD_g3, LD_g4, LD_n0, LD_n1, LD_n2, LD_n3, LD_n4, LD_n5, LD_n6, LD_n7, LD_n8, LD_cp, LD_ac, LD_or, LD_oh, e3, jI_le, Nat.le_refl, if_true]
  refine Ev_cg (g := mgS g g0 75) hng hnd hnc (fun k hk => ?_) ?_
  · unfold mgS
    by_cases hk2 : k < 75
    · rw [if_pos hk2, if_pos (by omega)]
    · rw [if_neg hk2, if_neg (by omega)]
  -- the gardens
  refine lup0 nd (fun i x => x = (100, [.ref o1, .ref o2, .int (jI i)], [], 0, 0, MM Ln (LD σ' o1 (mgS g g0 (75 + 9 * i)) ng nd nc) lo db)) rfl ?_ ?_
  · rintro i x hi rfl hn
    have hn := hn _ rfl
    have e4 : mgS g g0 (75 + 9 * i) 4 = jI nd := (if_pos (by omega)).trans b6
    have en : σ' (nA o2 i) = σ (nA o2 i) := f1 _ (fun j hj => by unfold nA ohA; omega)
    have bz' : bZ (σ' (nA o2 i) 5) = True := by rw [en]; exact bz i hi
    rw [s_4_100]
    simp (disch := first | assumption | omega) only [s_4_0, s_4_1, s_4_2, s_4_5, s_4_8, s_4_9, s_4_10, s_4_13, s_4_16, s_4_17, s_4_18, s_4_21, s_4_24, s_4_25, s_4_26, s_4_29, s_4_32, s_4_33, s_4_34, s_4_37, s_4_40, s_4_41, s_4_42, s_4_45, s_4_48, s_4_49, s_4_50, s_4_53, s_4_56, s_4_57, s_4_60, s_4_61, s_4_64, r_4_64, s_4_67, s_4_68, s_4_70, s_4_71, s_4_74, s_4_77, s_4_78, s_4_81, s_4_82, s_4_83, s_4_84, s_4_87, s_4_88, s_4_89, r_4_89, s_4_92, s_4_95, s_4_98, s_4_99, s_4_101, s_4_102, s_4_105, s_4_108, s_4_109, s_4_112, s_4_113, s_4_114, s_4_115, s_4_118, s_4_119, s_4_120, r_4_120, s_4_123, s_4_126, s_4_129, s_4_130, s_4_132, s_4_133, s_4_136, s_4_139, s_4_140, s_4_143, s_4_144, s_4_145, s_4_148, s_4_149, s_4_150, s_4_151, s_4_152, s_4_155, s_4_156, s_4_157, s_4_160, s_4_161, s_4_162, s_4_163, s_4_166, s_4_169, jI_mul, jI_add, jI_tnc, jI_ixT, true_and, and_true, bZ_0, bZ_1, bZ_b, jI_nz, jI_div, jI_rem, jI_mod, Nat.add_zero, bI_if, not_false_iff, if_true, if_false, eq_self, LD_s6, LD_s7, LD_s8, LD_s9, LD_s10, LD_s11, LD_s12, LD_b0, LD_b1, LD_b2, LD_b3, LD_b4, LD_b5, LD_b6, LD_b7, LD_g1, LD_g2, LD_g3, LD_g4, LD_n0, LD_n1, LD_n2, LD_n3, LD_n4, LD_n5, LD_n6, LD_n7, LD_n8, LD_cp, LD_ac, LD_or, LD_oh, e4, jI_le, c_copyN h1 h2 hd hng hnd hi bz', en, R_n0 hR, R_n1 hR, R_n2 hR, R_n3 hR, R_n4 hR, R_n5 hR, R_n6 hR, R_n7 hR, R_n8 hR]
    rw [if_neg (by omega)]
    refine Ev_cg (g := mgS g g0 (75 + 9 * (i + 1))) hng hnd hnc (fun k hk => ?_) hn
    unfold mgS
    by_cases hk3 : k < 75 + 9 * i
    · simp (disch := omega) only [gu_ne]
      rw [if_pos hk3, if_pos (by omega)]
    · by_cases hk4 : k < 75 + 9 * (i + 1)
      · rw [if_pos hk4]
        have : k = 75 + 9 * i ∨ k = 75 + 9 * i + 1 ∨ k = 75 + 9 * i + 2 ∨ k = 75 + 9 * i + 3 ∨ k = 75 + 9 * i + 4 ∨ k = 75 + 9 * i + 5 ∨ k = 75 + 9 * i + 6 ∨ k = 75 + 9 * i + 7 ∨ k = 75 + 9 * i + 8 := by omega
        rcases this with rfl | rfl | rfl | rfl | rfl | rfl | rfl | rfl | rfl <;> simp (disch := omega) only [gu_ne, gu_at]
      · simp (disch := omega) only [gu_ne]
        rw [if_neg hk3, if_neg hk4]
  rintro x rfl
  have e4 : mgS g g0 (75 + 9 * nd) 4 = jI nd := (if_pos (by omega)).trans b6
  rw [s_4_100]
  simp (disch := first | assumption | omega) only [s_4_0, s_4_1, s_4_2, s_4_5, s_4_8, s_4_9, s_4_10, s_4_13, s_4_16, s_4_17, s_4_18, s_4_21, s_4_24, s_4_25, s_4_26, s_4_29, s_4_32, s_4_33, s_4_34, s_4_37, s_4_40, s_4_41, s_4_42, s_4_45, s_4_48, s_4_49, s_4_50, s_4_53, s_4_56, s_4_57, s_4_60, s_4_61, s_4_64, r_4_64, s_4_67, s_4_68, s_4_70, s_4_71, s_4_74, s_4_77, s_4_78, s_4_81, s_4_82, s_4_83, s_4_84, s_4_87, s_4_88, s_4_89, r_4_89, s_4_92, s_4_95, s_4_98, s_4_99, s_4_101, s_4_102, s_4_105, s_4_108, s_4_109, s_4_112, s_4_113, s_4_114, s_4_115, s_4_118, s_4_119, s_4_120, r_4_120, s_4_123, s_4_126, s_4_129, s_4_130, s_4_132, s_4_133, s_4_136, s_4_139, s_4_140, s_4_143, s_4_144, s_4_145, s_4_148, s_4_149, s_4_150, s_4_151, s_4_152, s_4_155, s_4_156, s_4_157, s_4_160, s_4_161, s_4_162, s_4_163, s_4_166, s_4_169, jI_mul, jI_add, jI_tnc, jI_ixT, true_and, and_true, bZ_0, bZ_1, bZ_b, jI_nz, jI_div, jI_rem, jI_mod, Nat.add_zero, bI_if, not_false_iff, if_true, if_false, eq_self, LD_s6, LD_s7, LD_s8, LD_s9, LD_s10, LD_s11, LD_s12, LD_b0, LD_b1, LD_b2, LD_b3, LD_b4, LD_b5, LD_b6, LD_b7, LD_g1, LD_g2, LD_g3, LD_g4, LD_n0, LD_n1, LD_n2, LD_n3, LD_n4, LD_n5, LD_n6, LD_n7, LD_n8, LD_cp, LD_ac, LD_or, LD_oh, e4, jI_le, Nat.le_refl, if_true]
  refine Ev_cg (g := mgS g g0 183) hng hnd hnc (fun k hk => ?_) ?_
  · unfold mgS
    by_cases hk2 : k < 183
    · rw [if_pos hk2, if_pos (by omega)]
    · rw [if_neg hk2, if_neg (by omega)]
  refine lup0 nc (fun i x => x = (131, [.ref o1, .ref o2, .int (jI i)], [], 0, 0, MM Ln (LD σ' o1 (mgS g g0 (183 + 2 * i)) ng nd nc) lo db)) rfl ?_ ?_
  · rintro i x hi rfl hn
    have hn := hn _ rfl
    have e5 : mgS g g0 (183 + 2 * i) 5 = jI nc := (if_pos (by omega)).trans b7
    have ec : σ' (cpA o2) = σ (cpA o2) := f1 _ (fun j hj => by unfold cpA ohA; omega)
    have ea : σ' (acA o2) = σ (acA o2) := f1 _ (fun j hj => by unfold acA ohA; omega)
    rw [s_4_131]
    simp (disch := first | assumption | omega) only [s_4_0, s_4_1, s_4_2, s_4_5, s_4_8, s_4_9, s_4_10, s_4_13, s_4_16, s_4_17, s_4_18, s_4_21, s_4_24, s_4_25, s_4_26, s_4_29, s_4_32, s_4_33, s_4_34, s_4_37, s_4_40, s_4_41, s_4_42, s_4_45, s_4_48, s_4_49, s_4_50, s_4_53, s_4_56, s_4_57, s_4_60, s_4_61, s_4_64, r_4_64, s_4_67, s_4_68, s_4_70, s_4_71, s_4_74, s_4_77, s_4_78, s_4_81, s_4_82, s_4_83, s_4_84, s_4_87, s_4_88, s_4_89, r_4_89, s_4_92, s_4_95, s_4_98, s_4_99, s_4_101, s_4_102, s_4_105, s_4_108, s_4_109, s_4_112, s_4_113, s_4_114, s_4_115, s_4_118, s_4_119, s_4_120, r_4_120, s_4_123, s_4_126, s_4_129, s_4_130, s_4_132, s_4_133, s_4_136, s_4_139, s_4_140, s_4_143, s_4_144, s_4_145, s_4_148, s_4_149, s_4_150, s_4_151, s_4_152, s_4_155, s_4_156, s_4_157, s_4_160, s_4_161, s_4_162, s_4_163, s_4_166, s_4_169, jI_mul, jI_add, jI_tnc, jI_ixT, true_and, and_true, bZ_0, bZ_1, bZ_b, jI_nz, jI_div, jI_rem, jI_mod, Nat.add_zero, bI_if, not_false_iff, if_true, if_false, eq_self, LD_s6, LD_s7, LD_s8, LD_s9, LD_s10, LD_s11, LD_s12, LD_b0, LD_b1, LD_b2, LD_b3, LD_b4, LD_b5, LD_b6, LD_b7, LD_g1, LD_g2, LD_g3, LD_g4, LD_n0, LD_n1, LD_n2, LD_n3, LD_n4, LD_n5, LD_n6, LD_n7, LD_n8, LD_cp, LD_ac, LD_or, LD_oh, e5, jI_le, LX_cp, LX_ac, ec, ea, R_cp hR, R_ac hR, LD_ucp, LD_uac]
    rw [if_neg (by omega)]
    refine Ev_cg (g := mgS g g0 (183 + 2 * (i + 1))) hng hnd hnc (fun k hk => ?_) hn
    unfold mgS
    by_cases hk3 : k < 183 + 2 * i
    · simp (disch := omega) only [gu_ne]
      rw [if_pos hk3, if_pos (by omega)]
    · by_cases hk4 : k < 183 + 2 * (i + 1)
      · rw [if_pos hk4]
        have : k = 183 + 2 * i ∨ k = 184 + 2 * i := by omega
        rcases this with rfl | rfl <;> simp (disch := omega) only [gu_ne, gu_at]
      · simp (disch := omega) only [gu_ne]
        rw [if_neg hk3, if_neg hk4]
  rintro x rfl
  have e5 : mgS g g0 (183 + 2 * nc) 5 = jI nc := (if_pos (by omega)).trans b7
  rw [s_4_131]
  simp (disch := first | assumption | omega) only [s_4_0, s_4_1, s_4_2, s_4_5, s_4_8, s_4_9, s_4_10, s_4_13, s_4_16, s_4_17, s_4_18, s_4_21, s_4_24, s_4_25, s_4_26, s_4_29, s_4_32, s_4_33, s_4_34, s_4_37, s_4_40, s_4_41, s_4_42, s_4_45, s_4_48, s_4_49, s_4_50, s_4_53, s_4_56, s_4_57, s_4_60, s_4_61, s_4_64, r_4_64, s_4_67, s_4_68, s_4_70, s_4_71, s_4_74, s_4_77, s_4_78, s_4_81, s_4_82, s_4_83, s_4_84, s_4_87, s_4_88, s_4_89, r_4_89, s_4_92, s_4_95, s_4_98, s_4_99, s_4_101, s_4_102, s_4_105, s_4_108, s_4_109, s_4_112, s_4_113, s_4_114, s_4_115, s_4_118, s_4_119, s_4_120, r_4_120, s_4_123, s_4_126, s_4_129, s_4_130, s_4_132, s_4_133, s_4_136, s_4_139, s_4_140, s_4_143, s_4_144, s_4_145, s_4_148, s_4_149, s_4_150, s_4_151, s_4_152, s_4_155, s_4_156, s_4_157, s_4_160, s_4_161, s_4_162, s_4_163, s_4_166, s_4_169, jI_mul, jI_add, jI_tnc, jI_ixT, true_and, and_true, bZ_0, bZ_1, bZ_b, jI_nz, jI_div, jI_rem, jI_mod, Nat.add_zero, bI_if, not_false_iff, if_true, if_false, eq_self, LD_s6, LD_s7, LD_s8, LD_s9, LD_s10, LD_s11, LD_s12, LD_b0, LD_b1, LD_b2, LD_b3, LD_b4, LD_b5, LD_b6, LD_b7, LD_g1, LD_g2, LD_g3, LD_g4, LD_n0, LD_n1, LD_n2, LD_n3, LD_n4, LD_n5, LD_n6, LD_n7, LD_n8, LD_cp, LD_ac, LD_or, LD_oh, e5, jI_le, Nat.le_refl, if_true]
  have eL : LD σ' o1 (mgS g g0 (183 + 2 * nc)) ng nd nc = LD σ' o1 g ng nd nc := LD_cg (fun k hk => if_pos (by omega))
  rw [eL]
  refine H _ ⟨LD_LD, ?_⟩ ?_
  · intro i hi
    obtain ⟨q1, q2⟩ := hO i hi
    refine ⟨fun x hx => ?_, fun d r hd hr => ?_⟩
    · rw [LD_oh hng (by omega), f2 i hi _ (by omega)]; exact q1 x hx
    · rw [LD_oh hng (by omega), f2 i hi _ hd]; exact q2 d r hd hr
  · intro a ha
    funext k
    rw [LD_out hng hnd ha, f1 a (fun j hj => by unfold ohA; omega)]
end
