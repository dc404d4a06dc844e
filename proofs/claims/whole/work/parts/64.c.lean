/-! THE CLASS: an hour from first to last; what hours keep -/
set_option maxRecDepth 16384
section
variable {K : Ou → Me → Prop} {Ln : Nat} {σ : Nat → Nat → Int32} {g : Gr} {lo : Nat → Nat → Int64} {db : Nat → Nat → UInt64} {μ : Me} {oh : Nat → Nat → Bool} {o ng nd nc h : Nat}
theorem thrS_ty (hng : ng ≤ 6) (hnd : nd ≤ 12) (hQ : QI g ng nd nc) : ∀ n, n ≤ nd → QI (thrS g n) ng nd nc
  | 0, _ => hQ
  | n + 1, hn => by
    have ih := thrS_ty hng hnd hQ n (by omega)
    have en : thrS g (n + 1) = gu (thrS g n) (75 + 9 * n + 4) (mn (jI 99) (thrS g n (75 + 9 * n + 4) + thrS g n (75 + 9 * n + 1))) := rfl
    rw [en]
    obtain ⟨b, hb, e1⟩ := (QC_1 hng (show n < nd by omega)).mp (ih (75 + 9 * n + 1))
    obtain ⟨t, ht, e2⟩ := (QC_4 hng (show n < nd by omega)).mp (ih (75 + 9 * n + 4))
    refine QI_gu ih ((QC_4 hng (by omega)).mpr ⟨min 99 (t + b), by omega, ?_⟩)
    rw [e1, e2, jI_add, mn_jI (by omega) (by omega)]
theorem lkS_ty (hng : ng ≤ 6) (hnd : nd ≤ 12) (hQ : QI g ng nd nc) : ∀ n, n ≤ ng → QI (lkS g n) ng nd nc
  | 0, _ => hQ
  | n + 1, hn => by
    have ih := lkS_ty hng hnd hQ n (by omega)
    have en : lkS g (n + 1) = gu (lkS g n) (15 + 10 * n + 1) (mn (jI 50) (lkS g n (15 + 10 * n + 1) + jI 1)) := rfl
    rw [en]
    obtain ⟨l, hl, e1⟩ := (QC_l hng (show n < ng by omega)).mp (ih (15 + 10 * n + 1))
    refine QI_gu ih ((QC_l hng (by omega)).mpr ⟨min 50 (l + 1), by omega, ?_⟩)
    rw [e1, jI_add, mn_jI (by omega) (by omega)]
/-- what holds of the numbers -/
def Cb (g : Gr) (ng nd nc h : Nat) : Prop := ng ≤ 6 ∧ nd ≤ 12 ∧ nc ≤ 8 ∧ g 0 = jI h ∧ g 3 = jI ng ∧ g 4 = jI nd ∧ g 5 = jI nc ∧ (∃ w, w ≤ 200 ∧ g 1 = jI w) ∧ QI g ng nd nc
def hw1 (g : Gr) (nd h : Nat) : Gr := if h % 24 ≤ 5 then g else thrS g nd
def hw2 (oh : Nat → Nat → Bool) (g : Gr) (ng nd h : Nat) : Gr × Int32 := itN ng (dwnStep oh (h % 168) nd) (gu (hw1 g nd h) 7 (hw1 g nd h 7 + hw1 g nd h 1), gu (hw1 g nd h) 7 (hw1 g nd h 7 + hw1 g nd h 1) 1)
def hw3 (oh : Nat → Nat → Bool) (g : Gr) (ng nd h : Nat) : Gr × Int32 := if h % 24 ≤ 5 then itN nd (thvStep ((hw2 oh g ng nd h).1 0)) (hw2 oh g ng nd h) else hw2 oh g ng nd h
def hw4 (oh : Nat → Nat → Bool) (g : Gr) (ng nd h : Nat) : Gr := gu (hw3 oh g ng nd h).1 11 ((hw3 oh g ng nd h).1 11 + (hw3 oh g ng nd h).2)
def hw5 (oh : Nat → Nat → Bool) (g : Gr) (ng nd nc h : Nat) : Gr := if h % 168 = 84 then hrAll (hw4 oh g ng nd h) nc else hw4 oh g ng nd h
def hw6 (oh : Nat → Nat → Bool) (g : Gr) (ng nd nc h : Nat) : Gr := if h % 168 = 167 then lkS (hw5 oh g ng nd nc h) ng else hw5 oh g ng nd nc h
theorem hour_hw : hourS oh ng nd nc h g = gu (hw6 oh g ng nd nc h) 0 (hw6 oh g ng nd nc h 0 + jI 1) := rfl
def hwF (k : Nat) : Prop := k = 0 ∨ k = 1 ∨ k = 3 ∨ k = 4 ∨ k = 5
section
variable (hB : Cb g ng nd nc h) (hh : h < 2147483647)
theorem hw1_ok (hB : Cb g ng nd nc h) : QI (hw1 g nd h) ng nd nc ∧ ∀ k, hwF k → hw1 g nd h k = g k := by
  obtain ⟨b1, b2, b3, b4, b5, b6, b7, b8, b9⟩ := hB
  unfold hw1
  split
  · exact ⟨b9, fun _ _ => rfl⟩
  · exact ⟨thrS_ty b1 b2 b9 nd (Nat.le_refl _), fun k hk => thrS_fx (by unfold hwF at hk; omega) b2⟩
theorem hw2_ok (hB : Cb g ng nd nc h) : QI (hw2 oh g ng nd h).1 ng nd nc ∧ (∀ k, hwF k → (hw2 oh g ng nd h).1 k = g k) ∧ ∃ w, w ≤ 200 ∧ (hw2 oh g ng nd h).2 = jI w := by
  have h1 := hw1_ok hB
  obtain ⟨b1, b2, b3, b4, b5, b6, b7, ⟨w, hw, b8⟩, b9⟩ := hB
  unfold hw2
  have e1 : gu (hw1 g nd h) 7 (hw1 g nd h 7 + hw1 g nd h 1) 1 = jI w := by
    rw [gu_ne (by decide), h1.2 1 (by unfold hwF; omega)]; exact b8
  have Q1 : QI (gu (hw1 g nd h) 7 (hw1 g nd h 7 + hw1 g nd h 1)) ng nd nc := QI_o h1.1 (by omega)
  obtain ⟨t1, w1, q1, f1⟩ := dwnN_ty (oh := oh) (hw := h % 168) (z := (gu (hw1 g nd h) 7 (hw1 g nd h 7 + hw1 g nd h 1), gu (hw1 g nd h) 7 (hw1 g nd h 7 + hw1 g nd h 1) 1)) b1 b2 Q1 (w := w) (by omega) e1 ng (Nat.le_refl _)
  refine ⟨t1, fun k hk => ?_, w1, by omega, f1⟩
  have hk' := hk
  unfold hwF at hk
  rw [dwn_fx (by unfold Fx; omega)]
  exact (gu_ne (by omega)).trans (h1.2 k hk')
theorem hw3_ok (hB : Cb g ng nd nc h) (hh : h < 2147483647) : QI (hw3 oh g ng nd h).1 ng nd nc ∧ (∀ k, hwF k → (hw3 oh g ng nd h).1 k = g k) ∧ ∃ w, w ≤ 200 ∧ (hw3 oh g ng nd h).2 = jI w := by
  obtain ⟨h1, h2, w, hw, h3⟩ := hw2_ok (oh := oh) hB
  obtain ⟨b1, b2, b3, b4, b5, b6, b7, b8, b9⟩ := hB
  unfold hw3
  split
  · rw [h2 0 (by unfold hwF; omega), b4]
    obtain ⟨t1, w1, q1, f1⟩ := thvN_ty b1 b2 h1 (w := w) (by omega) (show h < 2147483648 by omega) h3 nd (Nat.le_refl _)
    refine ⟨t1, fun k hk => ?_, w1, by omega, f1⟩
    have hk' := hk
    unfold hwF at hk
    rw [thvN_fx (by omega) (by omega)]
    exact h2 k hk'
  · exact ⟨h1, h2, w, hw, h3⟩
theorem hw4_ok (hB : Cb g ng nd nc h) (hh : h < 2147483647) : QI (hw4 oh g ng nd h) ng nd nc ∧ (∀ k, hwF k → hw4 oh g ng nd h k = g k) := by
  obtain ⟨h1, h2, h3⟩ := hw3_ok (oh := oh) hB hh
  unfold hw4
  refine ⟨QI_o h1 (by omega), fun k hk => ?_⟩
  have hk' := hk
  unfold hwF at hk
  rw [gu_ne (by omega)]
  exact h2 k hk'
theorem hw5_ok (hB : Cb g ng nd nc h) (hh : h < 2147483647) : QI (hw5 oh g ng nd nc h) ng nd (if h % 168 = 84 then 0 else nc) ∧ (∀ k, hwF k → k ≠ 5 → hw5 oh g ng nd nc h k = g k) ∧ hw5 oh g ng nd nc h 5 = jI (if h % 168 = 84 then 0 else nc) := by
  obtain ⟨h1, h2⟩ := hw4_ok (oh := oh) hB hh
  obtain ⟨b1, b2, b3, b4, b5, b6, b7, b8, b9⟩ := hB
  unfold hw5
  split
  · refine ⟨hrAll_ty b1 b2 h1, fun k hk h5 => ?_, ?_⟩
    · have hk' := hk
      unfold hwF at hk
      rw [hrAll_lo (CPL_of b1 b2 h1) (by omega)]
      exact h2 k hk'
    · unfold hrAll; exact gu_at
  · exact ⟨h1, fun k hk _ => h2 k hk, (h2 5 (by unfold hwF; omega)).trans b7⟩
theorem hourS_cb (hB : Cb g ng nd nc h) (hh : h < 2147483647) : Cb (hourS oh ng nd nc h g) ng nd (if h % 168 = 84 then 0 else nc) (h + 1) := by
  obtain ⟨h1, h2, h3⟩ := hw5_ok (oh := oh) hB hh
  obtain ⟨b1, b2, b3, b4, b5, b6, b7, ⟨w, hw, b8⟩, b9⟩ := hB
  have h6 : QI (hw6 oh g ng nd nc h) ng nd (if h % 168 = 84 then 0 else nc) ∧ ∀ k, hwF k → hw6 oh g ng nd nc h k = hw5 oh g ng nd nc h k := by
    unfold hw6
    split
    · exact ⟨lkS_ty b1 b2 h1 ng (Nat.le_refl _), fun k hk => lkS_fx (by unfold hwF at hk; omega)⟩
    · exact ⟨h1, fun _ _ => rfl⟩
  rw [hour_hw]
  have f := fun k hk h5 => (h6.2 k hk).trans (h2 k hk h5)
  refine ⟨b1, b2, by split <;> omega, ?_, ?_, ?_, ?_, ⟨w, hw, ?_⟩, QI_o h6.1 (by omega)⟩
  · rw [gu_at, f 0 (by unfold hwF; omega) (by decide), b4, jI_add]
  · rw [gu_ne (by decide), f 3 (by unfold hwF; omega) (by decide)]; exact b5
  · rw [gu_ne (by decide), f 4 (by unfold hwF; omega) (by decide)]; exact b6
  · rw [gu_ne (by decide), h6.2 5 (by unfold hwF; omega)]; exact h3
  · rw [gu_ne (by decide), f 1 (by unfold hwF; omega) (by decide)]; exact b8
end
theorem c_h3 {v2 v3 : Int32} (ho : DI o) (hng : ng ≤ 6) (hnd : nd ≤ 12) (h3 : g 3 = jI ng) (H : K (.inl none) (MM Ln (LD σ o (gu (if h % 168 = 167 then lkS g ng else g) 0 ((if h % 168 = 167 then lkS g ng else g) 0 + jI 1)) ng nd nc) lo db)) :
    Ev 11 (92, [.ref o, .int (jI (h % 168)), .int v2, .int v3], [], 0, 0, MM Ln (LD σ o g ng nd nc) lo db) K := by
  simp (disch := first | assumption | omega) only [s_11_0, s_11_1, s_11_4, s_11_7, r_11_7, s_11_10, s_11_11, s_11_12, s_11_14, s_11_15, s_11_17, s_11_20, s_11_21, s_11_24, s_11_25, s_11_26, s_11_27, s_11_30, s_11_31, r_11_31, s_11_34, s_11_35, s_11_38, s_11_39, s_11_42, s_11_43, s_11_46, s_11_47, s_11_50, s_11_51, s_11_52, s_11_55, r_11_55, s_11_58, s_11_59, s_11_60, s_11_63, s_11_64, s_11_65, r_11_65, s_11_68, s_11_69, s_11_70, s_11_73, s_11_74, s_11_77, s_11_78, s_11_79, s_11_82, s_11_83, s_11_85, s_11_88, s_11_89, r_11_89, s_11_92, s_11_93, s_11_96, s_11_99, s_11_100, r_11_100, s_11_104, s_11_105, s_11_108, s_11_109, s_11_110, s_11_113, jI_mul, jI_add, jI_tnc, jI_ixT, true_and, and_true, bZ_0, bZ_1, bZ_b, jI_nz, jI_div, jI_rem, jI_mod, Nat.add_zero, bI_if, not_false_iff, if_true, if_false, eq_self, jI_inj]
  by_cases hq : h % 168 = 167
  · simp only [if_pos hq] at H ⊢
    refine c_growL ho hng hnd h3 ?_
    simp (disch := first | assumption | omega) only [s_11_0, s_11_1, s_11_4, s_11_7, r_11_7, s_11_10, s_11_11, s_11_12, s_11_14, s_11_15, s_11_17, s_11_20, s_11_21, s_11_24, s_11_25, s_11_26, s_11_27, s_11_30, s_11_31, r_11_31, s_11_34, s_11_35, s_11_38, s_11_39, s_11_42, s_11_43, s_11_46, s_11_47, s_11_50, s_11_51, s_11_52, s_11_55, r_11_55, s_11_58, s_11_59, s_11_60, s_11_63, s_11_64, s_11_65, r_11_65, s_11_68, s_11_69, s_11_70, s_11_73, s_11_74, s_11_77, s_11_78, s_11_79, s_11_82, s_11_83, s_11_85, s_11_88, s_11_89, r_11_89, s_11_92, s_11_93, s_11_96, s_11_99, s_11_100, r_11_100, s_11_103, s_11_104, s_11_105, s_11_108, s_11_109, s_11_110, s_11_113, jI_mul, jI_add, jI_tnc, jI_ixT, true_and, and_true, bZ_0, bZ_1, bZ_b, jI_nz, jI_div, jI_rem, jI_mod, Nat.add_zero, bI_if, not_false_iff, if_true, if_false, eq_self, LD_s6, LD_s7, LD_s8, LD_s9, LD_s10, LD_s11, LD_s12, LD_b0, LD_b1, LD_b2, LD_b3, LD_b4, LD_b5, LD_b6, LD_b7, LD_g1, LD_g2, LD_g3, LD_g4, LD_n0, LD_n1, LD_n2, LD_n3, LD_n4, LD_n5, LD_n6, LD_n7, LD_n8, LD_cp, LD_ac, LD_or, LD_oh, LD_us6, LD_us7, LD_us8, LD_us9, LD_us10, LD_us11, LD_us12, LD_ub0, LD_ub1, LD_ub2, LD_ub3, LD_ub4, LD_ub5, LD_ub6, LD_ub7, LD_ug1, LD_ug2, LD_ug3, LD_ug4, LD_un0, LD_un1, LD_un2, LD_un3, LD_un4, LD_un5, LD_un6, LD_un7, LD_un8, LD_uor, LD_uoh]
    exact H
  · simp only [if_neg hq] at H ⊢
    simp (disch := first | assumption | omega) only [s_11_0, s_11_1, s_11_4, s_11_7, r_11_7, s_11_10, s_11_11, s_11_12, s_11_14, s_11_15, s_11_17, s_11_20, s_11_21, s_11_24, s_11_25, s_11_26, s_11_27, s_11_30, s_11_31, r_11_31, s_11_34, s_11_35, s_11_38, s_11_39, s_11_42, s_11_43, s_11_46, s_11_47, s_11_50, s_11_51, s_11_52, s_11_55, r_11_55, s_11_58, s_11_59, s_11_60, s_11_63, s_11_64, s_11_65, r_11_65, s_11_68, s_11_69, s_11_70, s_11_73, s_11_74, s_11_77, s_11_78, s_11_79, s_11_82, s_11_83, s_11_85, s_11_88, s_11_89, r_11_89, s_11_92, s_11_93, s_11_96, s_11_99, s_11_100, r_11_100, s_11_103, s_11_104, s_11_105, s_11_108, s_11_109, s_11_110, s_11_113, jI_mul, jI_add, jI_tnc, jI_ixT, true_and, and_true, bZ_0, bZ_1, bZ_b, jI_nz, jI_div, jI_rem, jI_mod, Nat.add_zero, bI_if, not_false_iff, if_true, if_false, eq_self, LD_s6, LD_s7, LD_s8, LD_s9, LD_s10, LD_s11, LD_s12, LD_b0, LD_b1, LD_b2, LD_b3, LD_b4, LD_b5, LD_b6, LD_b7, LD_g1, LD_g2, LD_g3, LD_g4, LD_n0, LD_n1, LD_n2, LD_n3, LD_n4, LD_n5, LD_n6, LD_n7, LD_n8, LD_cp, LD_ac, LD_or, LD_oh, LD_us6, LD_us7, LD_us8, LD_us9, LD_us10, LD_us11, LD_us12, LD_ub0, LD_ub1, LD_ub2, LD_ub3, LD_ub4, LD_ub5, LD_ub6, LD_ub7, LD_ug1, LD_ug2, LD_ug3, LD_ug4, LD_un0, LD_un1, LD_un2, LD_un3, LD_un4, LD_un5, LD_un6, LD_un7, LD_un8, LD_uor, LD_uoh]
    exact H
theorem c_h2 {v2 : Int32} {y : Gr × Int32} (ho : DI o) (hng : ng ≤ 6) (hnd : nd ≤ 12) (hnc : nc ≤ 8) (y3 : y.1 3 = jI ng) (y4 : y.1 4 = jI nd) (y5 : y.1 5 = jI nc) (hQ : QI y.1 ng nd nc)
    (H : ∀ σ', Fo o σ σ' → K (.inl none) (MM Ln (LD σ' o (gu (if h % 168 = 167 then lkS (if h % 168 = 84 then hrAll (gu y.1 11 (y.1 11 + y.2)) nc else gu y.1 11 (y.1 11 + y.2)) ng else (if h % 168 = 84 then hrAll (gu y.1 11 (y.1 11 + y.2)) nc else gu y.1 11 (y.1 11 + y.2))) 0 ((if h % 168 = 167 then lkS (if h % 168 = 84 then hrAll (gu y.1 11 (y.1 11 + y.2)) nc else gu y.1 11 (y.1 11 + y.2)) ng else (if h % 168 = 84 then hrAll (gu y.1 11 (y.1 11 + y.2)) nc else gu y.1 11 (y.1 11 + y.2))) 0 + jI 1)) ng nd (if h % 168 = 84 then 0 else nc)) lo db)) :
    Ev 11 (69, [.ref o, .int (jI (h % 168)), .int v2, .int y.2], [], 0, 0, MM Ln (LD σ o y.1 ng nd nc) lo db) K := by
  have Q1 : QI (gu y.1 11 (y.1 11 + y.2)) ng nd nc := QI_o hQ (by omega)
  simp (disch := first | assumption | omega) only [s_11_0, s_11_1, s_11_4, s_11_7, r_11_7, s_11_10, s_11_11, s_11_12, s_11_14, s_11_15, s_11_17, s_11_20, s_11_21, s_11_24, s_11_25, s_11_26, s_11_27, s_11_30, s_11_31, r_11_31, s_11_34, s_11_35, s_11_38, s_11_39, s_11_42, s_11_43, s_11_46, s_11_47, s_11_50, s_11_51, s_11_52, s_11_55, r_11_55, s_11_58, s_11_59, s_11_60, s_11_63, s_11_64, s_11_65, r_11_65, s_11_68, s_11_69, s_11_70, s_11_73, s_11_74, s_11_77, s_11_78, s_11_79, s_11_82, s_11_83, s_11_85, s_11_88, s_11_89, r_11_89, s_11_93, s_11_96, s_11_99, s_11_100, r_11_100, s_11_103, s_11_104, s_11_105, s_11_108, s_11_109, s_11_110, s_11_113, jI_mul, jI_add, jI_tnc, jI_ixT, true_and, and_true, bZ_0, bZ_1, bZ_b, jI_nz, jI_div, jI_rem, jI_mod, Nat.add_zero, bI_if, not_false_iff, if_true, if_false, eq_self, LD_s6, LD_s7, LD_s8, LD_s9, LD_s10, LD_s11, LD_s12, LD_b0, LD_b1, LD_b2, LD_b3, LD_b4, LD_b5, LD_b6, LD_b7, LD_g1, LD_g2, LD_g3, LD_g4, LD_n0, LD_n1, LD_n2, LD_n3, LD_n4, LD_n5, LD_n6, LD_n7, LD_n8, LD_cp, LD_ac, LD_or, LD_oh, LD_us6, LD_us7, LD_us8, LD_us9, LD_us10, LD_us11, LD_us12, LD_ub0, LD_ub1, LD_ub2, LD_ub3, LD_ub4, LD_ub5, LD_ub6, LD_ub7, LD_ug1, LD_ug2, LD_ug3, LD_ug4, LD_un0, LD_un1, LD_un2, LD_un3, LD_un4, LD_un5, LD_un6, LD_un7, LD_un8, LD_uor, LD_uoh, jI_inj]
  by_cases hq : h % 168 = 84
  · have hq2 : ¬ h % 168 = 167 := by omega
    rw [if_pos hq]
    simp only [if_pos hq] at H
    refine c_hearAll ho hng hnd hnc (by rw [gu_ne (by omega)]; exact y4) (by rw [gu_ne (by omega)]; exact y5) Q1 (fun σ' f1 => ?_)
    rw [r_11_89]
    refine c_h3 ho hng hnd ?_ (H σ' f1)
    rw [hrAll_lo (CPL_of hng hnd Q1) (by omega), gu_ne (by omega)]; exact y3
  · rw [if_neg hq]
    simp only [if_neg hq] at H
    exact c_h3 ho hng hnd (by rw [gu_ne (by omega)]; exact y3) (H σ Fo.refl)
theorem c_hour (ho : DI o) (hB : Cb g ng nd nc h) (hh : h < 2147483647) (hO : OHc σ o ng oh) (H : ∀ σ', Fo o σ σ' → K (.inl none) (MM Ln (LD σ' o (hourS oh ng nd nc h g) ng nd (if h % 168 = 84 then 0 else nc)) lo db)) :
    Ev 11 (0, [.ref o, .null, .null, .null], [], 0, 0, MM Ln (LD σ o g ng nd nc) lo db) K := by
  have k1 := hw1_ok hB
  obtain ⟨k2, k2', w, hw, k2w⟩ := hw2_ok (oh := oh) hB
  obtain ⟨k3, k3', w3, hw3', k3w⟩ := hw3_ok (oh := oh) hB hh
  obtain ⟨hng, hnd, hnc, b4, b5, b6, b7, ⟨wi, hwi, b8⟩, b9⟩ := hB
  have e24 : h % 168 % 24 = h % 24 := by omega
  have hlt : (jI 6 ≤ jI (h % 24)) = (¬ h % 24 ≤ 5) := propext (by rw [jI_le (by omega) (by omega)]; omega)
  -- behind the growth
  have mid : Ev 11 (34, [.ref o, .int (jI (h % 168)), .int (bI (h % 24 ≤ 5)), .null], [], 0, 0, MM Ln (LD σ o (hw1 g nd h) ng nd nc) lo db) K := by
    have e0 := (k1.2 0 (by unfold hwF; omega)).trans b4
    have e3 := (k1.2 3 (by unfold hwF; omega)).trans b5
    have e4 := (k1.2 4 (by unfold hwF; omega)).trans b6
    simp (disch := first | assumption | omega) only [s_11_0, s_11_1, s_11_4, s_11_7, r_11_7, s_11_10, s_11_11, s_11_12, s_11_14, s_11_15, s_11_17, s_11_20, s_11_21, s_11_24, s_11_25, s_11_26, s_11_27, s_11_30, s_11_31, r_11_31, s_11_34, s_11_35, s_11_38, s_11_39, s_11_42, s_11_43, s_11_46, s_11_47, s_11_50, s_11_51, s_11_52, s_11_55, r_11_55, s_11_58, s_11_59, s_11_60, s_11_63, s_11_64, s_11_65, r_11_65, s_11_68, s_11_70, s_11_73, s_11_74, s_11_77, s_11_78, s_11_79, s_11_82, s_11_83, s_11_85, s_11_88, s_11_89, r_11_89, s_11_92, s_11_93, s_11_96, s_11_99, s_11_100, r_11_100, s_11_103, s_11_104, s_11_105, s_11_108, s_11_109, s_11_110, s_11_113, jI_mul, jI_add, jI_tnc, jI_ixT, true_and, and_true, bZ_0, bZ_1, bZ_b, jI_nz, jI_div, jI_rem, jI_mod, Nat.add_zero, bI_if, not_false_iff, if_true, if_false, eq_self, LD_s6, LD_s7, LD_s8, LD_s9, LD_s10, LD_s11, LD_s12, LD_b0, LD_b1, LD_b2, LD_b3, LD_b4, LD_b5, LD_b6, LD_b7, LD_g1, LD_g2, LD_g3, LD_g4, LD_n0, LD_n1, LD_n2, LD_n3, LD_n4, LD_n5, LD_n6, LD_n7, LD_n8, LD_cp, LD_ac, LD_or, LD_oh, LD_us6, LD_us7, LD_us8, LD_us9, LD_us10, LD_us11, LD_us12, LD_ub0, LD_ub1, LD_ub2, LD_ub3, LD_ub4, LD_ub5, LD_ub6, LD_ub7, LD_ug1, LD_ug2, LD_ug3, LD_ug4, LD_un0, LD_un1, LD_un2, LD_un3, LD_un4, LD_un5, LD_un6, LD_un7, LD_un8, LD_uor, LD_uoh]
    refine c_down (oh := oh) (h := h) ho hng hnd (by rw [gu_ne (by omega)]; exact e3) (by rw [gu_ne (by omega)]; exact e4) (by rw [gu_ne (by omega)]; exact e0) (by omega) hO (fun σ' f1 => ?_)
    have hz : itN ng (dwnStep oh (h % 168) nd) (gu (hw1 g nd h) 7 (hw1 g nd h 7 + hw1 g nd h 1), gu (hw1 g nd h) 7 (hw1 g nd h 7 + hw1 g nd h 1) 1) = hw2 oh g ng nd h := rfl
    rw [hz]
    have last : ∀ v2, Ev 11 (69, [.ref o, .int (jI (h % 168)), .int v2, .int (hw3 oh g ng nd h).2], [], 0, 0, MM Ln (LD σ' o (hw3 oh g ng nd h).1 ng nd nc) lo db) K := fun v2 =>
      c_h2 ho hng hnd hnc ((k3' 3 (by unfold hwF; omega)).trans b5) ((k3' 4 (by unfold hwF; omega)).trans b6) ((k3' 5 (by unfold hwF; omega)).trans b7) k3 (fun σ'' f2 => H σ'' (f1.fo.trans f2))
    have z4 := (k2' 4 (by unfold hwF; omega)).trans b6
    have z0 := (k2' 0 (by unfold hwF; omega)).trans b4
    simp (disch := first | assumption | omega) only [s_11_0, s_11_1, s_11_4, s_11_7, r_11_7, s_11_10, s_11_11, s_11_12, s_11_14, s_11_15, s_11_17, s_11_20, s_11_21, s_11_24, s_11_25, s_11_26, s_11_27, s_11_30, s_11_31, r_11_31, s_11_34, s_11_35, s_11_38, s_11_39, s_11_42, s_11_43, s_11_46, s_11_47, s_11_50, s_11_51, s_11_52, s_11_55, r_11_55, s_11_58, s_11_59, s_11_60, s_11_63, s_11_64, s_11_65, r_11_65, s_11_68, s_11_70, s_11_73, s_11_74, s_11_77, s_11_78, s_11_79, s_11_82, s_11_83, s_11_85, s_11_88, s_11_89, r_11_89, s_11_92, s_11_93, s_11_96, s_11_99, s_11_100, r_11_100, s_11_103, s_11_104, s_11_105, s_11_108, s_11_109, s_11_110, s_11_113, jI_mul, jI_add, jI_tnc, jI_ixT, true_and, and_true, bZ_0, bZ_1, bZ_b, jI_nz, jI_div, jI_rem, jI_mod, Nat.add_zero, bI_if, not_false_iff, if_true, if_false, eq_self]
    by_cases hq : h % 24 ≤ 5
    · rw [if_pos hq]
      have e : hw3 oh g ng nd h = itN nd (thvStep (jI h)) ((hw2 oh g ng nd h).1, jI w) := by
        unfold hw3
        rw [if_pos hq, z0, ← k2w]
      try simp (disch := first | assumption | omega) only [s_11_0, s_11_1, s_11_4, s_11_7, r_11_7, s_11_10, s_11_11, s_11_12, s_11_14, s_11_15, s_11_17, s_11_20, s_11_21, s_11_24, s_11_25, s_11_26, s_11_27, s_11_30, s_11_31, r_11_31, s_11_34, s_11_35, s_11_38, s_11_39, s_11_42, s_11_43, s_11_46, s_11_47, s_11_50, s_11_51, s_11_52, s_11_55, r_11_55, s_11_58, s_11_59, s_11_60, s_11_63, s_11_64, s_11_65, r_11_65, s_11_68, s_11_70, s_11_73, s_11_74, s_11_77, s_11_78, s_11_79, s_11_82, s_11_83, s_11_85, s_11_88, s_11_89, r_11_89, s_11_92, s_11_93, s_11_96, s_11_99, s_11_100, r_11_100, s_11_103, s_11_104, s_11_105, s_11_108, s_11_109, s_11_110, s_11_113, jI_mul, jI_add, jI_tnc, jI_ixT, true_and, and_true, bZ_0, bZ_1, bZ_b, jI_nz, jI_div, jI_rem, jI_mod, Nat.add_zero, bI_if, not_false_iff, if_true, if_false, eq_self]
      rw [k2w]
      refine c_thieves ho hng hnd z4 z0 k2 (by omega) (by omega) ?_
      rw [← e]
      try simp (disch := first | assumption | omega) only [s_11_0, s_11_1, s_11_4, s_11_7, r_11_7, s_11_10, s_11_11, s_11_12, s_11_14, s_11_15, s_11_17, s_11_20, s_11_21, s_11_24, s_11_25, s_11_26, s_11_27, s_11_30, s_11_31, r_11_31, s_11_34, s_11_35, s_11_38, s_11_39, s_11_42, s_11_43, s_11_46, s_11_47, s_11_50, s_11_51, s_11_52, s_11_55, r_11_55, s_11_58, s_11_59, s_11_60, s_11_63, s_11_64, s_11_65, r_11_65, s_11_68, s_11_70, s_11_73, s_11_74, s_11_77, s_11_78, s_11_79, s_11_82, s_11_83, s_11_85, s_11_88, s_11_89, r_11_89, s_11_92, s_11_93, s_11_96, s_11_99, s_11_100, r_11_100, s_11_103, s_11_104, s_11_105, s_11_108, s_11_109, s_11_110, s_11_113, jI_mul, jI_add, jI_tnc, jI_ixT, true_and, and_true, bZ_0, bZ_1, bZ_b, jI_nz, jI_div, jI_rem, jI_mod, Nat.add_zero, bI_if, not_false_iff, if_true, if_false, eq_self]
      exact last _
    · rw [if_neg hq]
      have e : hw3 oh g ng nd h = hw2 oh g ng nd h := if_neg hq
      rw [← e]
      try simp (disch := first | assumption | omega) only [s_11_0, s_11_1, s_11_4, s_11_7, r_11_7, s_11_10, s_11_11, s_11_12, s_11_14, s_11_15, s_11_17, s_11_20, s_11_21, s_11_24, s_11_25, s_11_26, s_11_27, s_11_30, s_11_31, r_11_31, s_11_34, s_11_35, s_11_38, s_11_39, s_11_42, s_11_43, s_11_46, s_11_47, s_11_50, s_11_51, s_11_52, s_11_55, r_11_55, s_11_58, s_11_59, s_11_60, s_11_63, s_11_64, s_11_65, r_11_65, s_11_68, s_11_70, s_11_73, s_11_74, s_11_77, s_11_78, s_11_79, s_11_82, s_11_83, s_11_85, s_11_88, s_11_89, r_11_89, s_11_92, s_11_93, s_11_96, s_11_99, s_11_100, r_11_100, s_11_103, s_11_104, s_11_105, s_11_108, s_11_109, s_11_110, s_11_113, jI_mul, jI_add, jI_tnc, jI_ixT, true_and, and_true, bZ_0, bZ_1, bZ_b, jI_nz, jI_div, jI_rem, jI_mod, Nat.add_zero, bI_if, not_false_iff, if_true, if_false, eq_self]
      exact last _
  simp (disch := first | assumption | omega) only [s_11_0, s_11_1, s_11_4, s_11_7, r_11_7, s_11_10, s_11_11, s_11_12, s_11_14, s_11_15, s_11_17, s_11_20, s_11_21, s_11_24, s_11_25, s_11_26, s_11_27, s_11_30, s_11_31, r_11_31, s_11_35, s_11_38, s_11_39, s_11_42, s_11_43, s_11_46, s_11_47, s_11_50, s_11_51, s_11_52, s_11_55, r_11_55, s_11_58, s_11_59, s_11_60, s_11_63, s_11_64, s_11_65, r_11_65, s_11_68, s_11_69, s_11_70, s_11_73, s_11_74, s_11_77, s_11_78, s_11_79, s_11_82, s_11_83, s_11_85, s_11_88, s_11_89, r_11_89, s_11_92, s_11_93, s_11_96, s_11_99, s_11_100, r_11_100, s_11_103, s_11_104, s_11_105, s_11_108, s_11_109, s_11_110, s_11_113, jI_mul, jI_add, jI_tnc, jI_ixT, true_and, and_true, bZ_0, bZ_1, bZ_b, jI_nz, jI_div, jI_rem, jI_mod, Nat.add_zero, bI_if, not_false_iff, if_true, if_false, eq_self, LD_s6, LD_s7, LD_s8, LD_s9, LD_s10, LD_s11, LD_s12, LD_b0, LD_b1, LD_b2, LD_b3, LD_b4, LD_b5, LD_b6, LD_b7, LD_g1, LD_g2, LD_g3, LD_g4, LD_n0, LD_n1, LD_n2, LD_n3, LD_n4, LD_n5, LD_n6, LD_n7, LD_n8, LD_cp, LD_ac, LD_or, LD_oh, b4, m_floorMod, e24, hlt]
  by_cases hq : h % 24 ≤ 5
  · simp only [hw1, bI, if_pos hq] at mid
    rw [if_neg (fun e => e hq)]
    have n1 : (jI 1 = jI 0) = False := jI_nz (by decide) (by decide)
    try simp (disch := first | assumption | omega) only [s_11_0, s_11_1, s_11_4, s_11_7, r_11_7, s_11_10, s_11_11, s_11_12, s_11_14, s_11_15, s_11_17, s_11_20, s_11_21, s_11_24, s_11_25, s_11_26, s_11_27, s_11_30, s_11_31, r_11_31, s_11_35, s_11_38, s_11_39, s_11_42, s_11_43, s_11_46, s_11_47, s_11_50, s_11_51, s_11_52, s_11_55, r_11_55, s_11_58, s_11_59, s_11_60, s_11_63, s_11_64, s_11_65, r_11_65, s_11_68, s_11_69, s_11_70, s_11_73, s_11_74, s_11_77, s_11_78, s_11_79, s_11_82, s_11_83, s_11_85, s_11_88, s_11_89, r_11_89, s_11_92, s_11_93, s_11_96, s_11_99, s_11_100, r_11_100, s_11_103, s_11_104, s_11_105, s_11_108, s_11_109, s_11_110, s_11_113, jI_mul, jI_add, jI_tnc, jI_ixT, true_and, and_true, bZ_0, bZ_1, bZ_b, jI_nz, jI_div, jI_rem, jI_mod, Nat.add_zero, bI_if, not_false_iff, if_true, if_false, eq_self, n1]
    exact mid
  · simp only [hw1, bI, if_neg hq] at mid
    rw [if_pos hq]
    try simp (disch := first | assumption | omega) only [s_11_0, s_11_1, s_11_4, s_11_7, r_11_7, s_11_10, s_11_11, s_11_12, s_11_14, s_11_15, s_11_17, s_11_20, s_11_21, s_11_24, s_11_25, s_11_26, s_11_27, s_11_30, s_11_31, r_11_31, s_11_35, s_11_38, s_11_39, s_11_42, s_11_43, s_11_46, s_11_47, s_11_50, s_11_51, s_11_52, s_11_55, r_11_55, s_11_58, s_11_59, s_11_60, s_11_63, s_11_64, s_11_65, r_11_65, s_11_68, s_11_69, s_11_70, s_11_73, s_11_74, s_11_77, s_11_78, s_11_79, s_11_82, s_11_83, s_11_85, s_11_88, s_11_89, r_11_89, s_11_92, s_11_93, s_11_96, s_11_99, s_11_100, r_11_100, s_11_103, s_11_104, s_11_105, s_11_108, s_11_109, s_11_110, s_11_113, jI_mul, jI_add, jI_tnc, jI_ixT, true_and, and_true, bZ_0, bZ_1, bZ_b, jI_nz, jI_div, jI_rem, jI_mod, Nat.add_zero, bI_if, not_false_iff, if_true, if_false, eq_self]
    refine c_growT ho hng hnd b6 ?_
    simp (disch := first | assumption | omega) only [s_11_0, s_11_1, s_11_4, s_11_7, r_11_7, s_11_10, s_11_11, s_11_12, s_11_14, s_11_15, s_11_17, s_11_20, s_11_21, s_11_24, s_11_25, s_11_26, s_11_27, s_11_30, s_11_31, r_11_31, s_11_35, s_11_38, s_11_39, s_11_42, s_11_43, s_11_46, s_11_47, s_11_50, s_11_51, s_11_52, s_11_55, r_11_55, s_11_58, s_11_59, s_11_60, s_11_63, s_11_64, s_11_65, r_11_65, s_11_68, s_11_69, s_11_70, s_11_73, s_11_74, s_11_77, s_11_78, s_11_79, s_11_82, s_11_83, s_11_85, s_11_88, s_11_89, r_11_89, s_11_92, s_11_93, s_11_96, s_11_99, s_11_100, r_11_100, s_11_103, s_11_104, s_11_105, s_11_108, s_11_109, s_11_110, s_11_113, jI_mul, jI_add, jI_tnc, jI_ixT, true_and, and_true, bZ_0, bZ_1, bZ_b, jI_nz, jI_div, jI_rem, jI_mod, Nat.add_zero, bI_if, not_false_iff, if_true, if_false, eq_self]
    exact mid
theorem hoursS_cb (hB : Cb g ng nd nc h) : ∀ n, h + n < 2147483647 → Cb (hoursS oh ng nd nc h g n).1 ng nd (hoursS oh ng nd nc h g n).2 (h + n)
  | 0, _ => hB
  | n + 1, hn => hourS_cb (hoursS_cb hB n (by omega)) (by omega)
theorem c_take {k n : Nat} (ho : DI o) (hk : k < ng) (hn : n ≤ 200) (hB : Cb g ng nd nc h) (hh : h < 2000000000) (hO : OHc σ o ng oh)
    (H : ∀ σ', Fo o σ σ' → K (.inl (some (.int ((hoursS oh ng nd nc h g n).1 (15 + 10 * k + 2) - g (15 + 10 * k + 2))))) (MM Ln (LD σ' o (hoursS oh ng nd nc h g n).1 ng nd (hoursS oh ng nd nc h g n).2) lo db)) :
    Ev 10 (0, [.ref o, .int (jI k), .int (jI n), .null, .null], [], 0, 0, MM Ln (LD σ o g ng nd nc) lo db) K := by
  have hng := hB.1
  have hnd := hB.2.1
  simp (disch := first | assumption | omega) only [s_10_0, s_10_1, s_10_4, s_10_5, s_10_6, s_10_9, s_10_10, s_10_11, s_10_15, s_10_16, s_10_19, s_10_20, r_10_20, s_10_23, s_10_26, s_10_29, s_10_30, s_10_33, s_10_34, s_10_35, s_10_38, s_10_39, s_10_40, jI_mul, jI_add, jI_tnc, jI_ixT, true_and, and_true, bZ_0, bZ_1, bZ_b, jI_nz, jI_div, jI_rem, jI_mod, Nat.add_zero, bI_if, not_false_iff, if_true, if_false, eq_self, LD_s6, LD_s7, LD_s8, LD_s9, LD_s10, LD_s11, LD_s12, LD_b0, LD_b1, LD_b2, LD_b3, LD_b4, LD_b5, LD_b6, LD_b7, LD_g1, LD_g2, LD_g3, LD_g4, LD_n0, LD_n1, LD_n2, LD_n3, LD_n4, LD_n5, LD_n6, LD_n7, LD_n8, LD_cp, LD_ac, LD_or, LD_oh]
  refine lup0 n (fun i x => ∃ σ', x = (13, [.ref o, .int (jI k), .int (jI n), .int (g (15 + 10 * k + 2)), .int (jI i)], [], 0, 0, MM Ln (LD σ' o (hoursS oh ng nd nc h g i).1 ng nd (hoursS oh ng nd nc h g i).2) lo db) ∧ Fo o σ σ') ⟨_, rfl, Fo.refl⟩ ?_ ?_
  · rintro i x hi ⟨σ', rfl, f1⟩ hn
    rw [s_10_13]
    simp (disch := first | assumption | omega) only [s_10_0, s_10_1, s_10_4, s_10_5, s_10_6, s_10_9, s_10_10, s_10_11, s_10_15, s_10_16, s_10_19, s_10_20, r_10_20, s_10_23, s_10_26, s_10_29, s_10_30, s_10_33, s_10_34, s_10_35, s_10_38, s_10_39, s_10_40, jI_mul, jI_add, jI_tnc, jI_ixT, true_and, and_true, bZ_0, bZ_1, bZ_b, jI_nz, jI_div, jI_rem, jI_mod, Nat.add_zero, bI_if, not_false_iff, if_true, if_false, eq_self, jI_le]
    rw [if_neg (by omega)]
    refine c_hour ho (hoursS_cb hB i (by omega)) (by omega) (f1.toOH hng hO) (fun σ'' f2 => ?_)
    simp (disch := first | assumption | omega) only [s_10_0, s_10_1, s_10_4, s_10_5, s_10_6, s_10_9, s_10_10, s_10_11, s_10_15, s_10_16, s_10_19, s_10_20, r_10_20, s_10_23, s_10_26, s_10_29, s_10_30, s_10_33, s_10_34, s_10_35, s_10_38, s_10_39, s_10_40, jI_mul, jI_add, jI_tnc, jI_ixT, true_and, and_true, bZ_0, bZ_1, bZ_b, jI_nz, jI_div, jI_rem, jI_mod, Nat.add_zero, bI_if, not_false_iff, if_true, if_false, eq_self]
    exact hn _ ⟨σ'', rfl, f1.trans f2⟩
  · rintro x ⟨σ', rfl, f1⟩
    rw [s_10_13]
    simp (disch := first | assumption | omega) only [s_10_0, s_10_1, s_10_4, s_10_5, s_10_6, s_10_9, s_10_10, s_10_11, s_10_15, s_10_16, s_10_19, s_10_20, r_10_20, s_10_23, s_10_26, s_10_29, s_10_30, s_10_33, s_10_34, s_10_35, s_10_38, s_10_39, s_10_40, jI_mul, jI_add, jI_tnc, jI_ixT, true_and, and_true, bZ_0, bZ_1, bZ_b, jI_nz, jI_div, jI_rem, jI_mod, Nat.add_zero, bI_if, not_false_iff, if_true, if_false, eq_self, jI_le, Nat.le_refl, LD_s6, LD_s7, LD_s8, LD_s9, LD_s10, LD_s11, LD_s12, LD_b0, LD_b1, LD_b2, LD_b3, LD_b4, LD_b5, LD_b6, LD_b7, LD_g1, LD_g2, LD_g3, LD_g4, LD_n0, LD_n1, LD_n2, LD_n3, LD_n4, LD_n5, LD_n6, LD_n7, LD_n8, LD_cp, LD_ac, LD_or, LD_oh]
    exact H σ' f1
theorem c_hours {n : Nat} (ho : DI o) (hn : n ≤ 200) (hB : Cb g ng nd nc h) (hh : h < 2000000000) (hO : OHc σ o ng oh)
    (H : ∀ σ', Fo o σ σ' → K (.inl (some (.int ((hoursS oh ng nd nc h g n).1 9 - g 9)))) (MM Ln (LD σ' o (hoursS oh ng nd nc h g n).1 ng nd (hoursS oh ng nd nc h g n).2) lo db)) :
    Ev 9 (0, [.ref o, .int (jI n), .null, .null], [], 0, 0, MM Ln (LD σ o g ng nd nc) lo db) K := by
  have hng := hB.1
  have hnd := hB.2.1
  simp (disch := first | assumption | omega) only [s_9_0, s_9_1, s_9_4, s_9_7, s_9_8, s_9_9, s_9_11, s_9_12, s_9_15, s_9_16, r_9_16, s_9_19, s_9_22, s_9_25, s_9_26, s_9_29, s_9_32, s_9_33, s_9_34, jI_mul, jI_add, jI_tnc, jI_ixT, true_and, and_true, bZ_0, bZ_1, bZ_b, jI_nz, jI_div, jI_rem, jI_mod, Nat.add_zero, bI_if, not_false_iff, if_true, if_false, eq_self, LD_s6, LD_s7, LD_s8, LD_s9, LD_s10, LD_s11, LD_s12, LD_b0, LD_b1, LD_b2, LD_b3, LD_b4, LD_b5, LD_b6, LD_b7, LD_g1, LD_g2, LD_g3, LD_g4, LD_n0, LD_n1, LD_n2, LD_n3, LD_n4, LD_n5, LD_n6, LD_n7, LD_n8, LD_cp, LD_ac, LD_or, LD_oh]
  refine lup0 n (fun i x => ∃ σ', x = (10, [.ref o, .int (jI n), .int (g 9), .int (jI i)], [], 0, 0, MM Ln (LD σ' o (hoursS oh ng nd nc h g i).1 ng nd (hoursS oh ng nd nc h g i).2) lo db) ∧ Fo o σ σ') ⟨_, rfl, Fo.refl⟩ ?_ ?_
  · rintro i x hi ⟨σ', rfl, f1⟩ hn
    rw [s_9_10]
    simp (disch := first | assumption | omega) only [s_9_0, s_9_1, s_9_4, s_9_7, s_9_8, s_9_9, s_9_11, s_9_12, s_9_15, s_9_16, r_9_16, s_9_19, s_9_22, s_9_25, s_9_26, s_9_29, s_9_32, s_9_33, s_9_34, jI_mul, jI_add, jI_tnc, jI_ixT, true_and, and_true, bZ_0, bZ_1, bZ_b, jI_nz, jI_div, jI_rem, jI_mod, Nat.add_zero, bI_if, not_false_iff, if_true, if_false, eq_self, jI_le]
    rw [if_neg (by omega)]
    refine c_hour ho (hoursS_cb hB i (by omega)) (by omega) (f1.toOH hng hO) (fun σ'' f2 => ?_)
    simp (disch := first | assumption | omega) only [s_9_0, s_9_1, s_9_4, s_9_7, s_9_8, s_9_9, s_9_11, s_9_12, s_9_15, s_9_16, r_9_16, s_9_19, s_9_22, s_9_25, s_9_26, s_9_29, s_9_32, s_9_33, s_9_34, jI_mul, jI_add, jI_tnc, jI_ixT, true_and, and_true, bZ_0, bZ_1, bZ_b, jI_nz, jI_div, jI_rem, jI_mod, Nat.add_zero, bI_if, not_false_iff, if_true, if_false, eq_self]
    exact hn _ ⟨σ'', rfl, f1.trans f2⟩
  · rintro x ⟨σ', rfl, f1⟩
    rw [s_9_10]
    simp (disch := first | assumption | omega) only [s_9_0, s_9_1, s_9_4, s_9_7, s_9_8, s_9_9, s_9_11, s_9_12, s_9_15, s_9_16, r_9_16, s_9_19, s_9_22, s_9_25, s_9_26, s_9_29, s_9_32, s_9_33, s_9_34, jI_mul, jI_add, jI_tnc, jI_ixT, true_and, and_true, bZ_0, bZ_1, bZ_b, jI_nz, jI_div, jI_rem, jI_mod, Nat.add_zero, bI_if, not_false_iff, if_true, if_false, eq_self, jI_le, Nat.le_refl, LD_s6, LD_s7, LD_s8, LD_s9, LD_s10, LD_s11, LD_s12, LD_b0, LD_b1, LD_b2, LD_b3, LD_b4, LD_b5, LD_b6, LD_b7, LD_g1, LD_g2, LD_g3, LD_g4, LD_n0, LD_n1, LD_n2, LD_n3, LD_n4, LD_n5, LD_n6, LD_n7, LD_n8, LD_cp, LD_ac, LD_or, LD_oh]
    exact H σ' f1
end
