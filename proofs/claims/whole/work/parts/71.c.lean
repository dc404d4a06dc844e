/-! THE CLASS: orders carried out -/
set_option maxRecDepth 16384
section
variable {K : Ou → Me → Prop} {Ln : Nat} {σ : Nat → Nat → Int32} {g : Gr} {lo : Nat → Nat → Int64} {db : Nat → Nat → UInt64} {μ : Me} {oh : Nat → Nat → Bool} {o ng nd nc h i : Nat}
theorem DI_hi (ho : DI o) {a : Nat} (ha : 344 ≤ a) : o + 31 ≤ a := by
  unfold DI kD at ho
  rcases ho with rfl | rfl | rfl | ⟨i, hi, rfl⟩ <;> omega
theorem LX_od {k : Nat} (ho : DI o) (hng : ng ≤ 6) (hnd : nd ≤ 12) : LD σ o g ng nd nc (oA i) k = σ (oA i) k := LD_out hng hnd (Or.inr (DI_hi ho (by unfold oA; omega)))
theorem c_inflow {v : Int32} : Ev 106 (0, [.int v], [], 0, 0, MM Ln σ lo db) K ↔ K (.inl (some (.int (bI (rng v 0 200))))) (MM Ln σ lo db) := by
  simp only [s_106_0, s_106_1, s_106_2, s_106_5, r_106_5, s_106_8, jI_mul, jI_add, jI_tnc, jI_ixT, true_and, and_true, bZ_0, bZ_1, bZ_b, jI_nz, jI_div, jI_rem, jI_mod, Nat.add_zero, bI_if, not_false_iff, if_true, if_false, eq_self, c_within]
theorem c_span {v : Int32} : Ev 107 (0, [.int v], [], 0, 0, MM Ln σ lo db) K ↔ K (.inl (some (.int (bI (rng v 1 200))))) (MM Ln σ lo db) := by
  simp only [s_107_0, s_107_1, s_107_2, s_107_5, r_107_5, s_107_8, jI_mul, jI_add, jI_tnc, jI_ixT, true_and, and_true, bZ_0, bZ_1, bZ_b, jI_nz, jI_div, jI_rem, jI_mod, Nat.add_zero, bI_if, not_false_iff, if_true, if_false, eq_self, c_within]
theorem c_area {x y : Int32} : Ev 108 (0, [.int x, .int y], [], 0, 0, MM Ln σ lo db) K ↔ K (.inl (some (.int (bI (¬ x < jI 0 ∧ ¬ y < x ∧ y < jI 168))))) (MM Ln σ lo db) := by
  simp only [s_108_0, s_108_1, s_108_4, s_108_5, s_108_6, s_108_9, s_108_10, s_108_13, s_108_16, s_108_17, s_108_20, s_108_21, jI_mul, jI_add, jI_tnc, jI_ixT, true_and, and_true, bZ_0, bZ_1, bZ_b, jI_nz, jI_div, jI_rem, jI_mod, Nat.add_zero, bI_if, not_false_iff, if_true, if_false, eq_self]
  unfold bI
  by_cases h1 : x < jI 0
  · rw [if_pos h1, if_neg (fun e => e.1 h1)]
  · rw [if_neg h1]
    by_cases h2 : y < x
    · rw [if_pos h2, if_neg (fun e => e.2.1 h2)]
    · rw [if_neg h2]
      by_cases h3 : y < jI 168
      · rw [if_neg (Int32.not_le.mpr h3), if_pos ⟨h1, h2, h3⟩]
      · rw [if_pos (Int32.not_lt.mp h3), if_neg (fun e => h3 e.2.2)]
theorem Cb_gu {k : Nat} {v : Int32} (hB : Cb g ng nd nc h) (hk : k = 2 ∨ (6 ≤ k ∧ k < 15) ∨ (15 ≤ k ∧ k < 75 ∧ 2 ≤ (k - 15) % 10) ∨ (75 ≤ k ∧ k < 183 ∧ (k - 75) % 9 = 3)) : Cb (gu g k v) ng nd nc h := by
  obtain ⟨b1, b2, b3, b4, b5, b6, b7, ⟨w, hw, b8⟩, b9⟩ := hB
  refine ⟨b1, b2, b3, ?_, ?_, ?_, ?_, ⟨w, hw, ?_⟩, QI_o b9 (by omega)⟩
  · rw [gu_ne (by omega)]; exact b4
  · rw [gu_ne (by omega)]; exact b5
  · rw [gu_ne (by omega)]; exact b6
  · rw [gu_ne (by omega)]; exact b7
  · rw [gu_ne (by omega)]; exact b8
theorem opS_cb {k x : Nat} {p : Bool} (hB : Cb g ng nd nc h) (hk : k < 6) (hx : x < 168) : Cb (opS g k x p) ng nd nc h := by
  unfold opS
  exact Cb_gu hB (by omega)
theorem opN_cb {k a : Nat} {p : Bool} (hB : Cb g ng nd nc h) (hk : k < 6) : ∀ n, a + n ≤ 168 → Cb (opN g k a p n) ng nd nc h
  | 0, _ => hB
  | n + 1, hn => opS_cb (opN_cb hB hk n (by omega)) hk (by omega)
theorem cplS_cb {a b : Nat} (hB : Cb g ng nd nc h) (hn : nc < 8) (ha : a < nd) (hb : b < nd) : Cb (cplS g nc (jI a) (jI b)) ng nd (nc + 1) h := by
  obtain ⟨b1, b2, b3, b4, b5, b6, b7, ⟨w, hw, b8⟩, b9⟩ := hB
  unfold cplS
  refine ⟨b1, b2, by omega, ?_, ?_, ?_, gu_at, ⟨w, hw, ?_⟩, ?_⟩
  · rw [gu_ne (by omega), gu_ne (by omega), gu_ne (by omega)]; exact b4
  · rw [gu_ne (by omega), gu_ne (by omega), gu_ne (by omega)]; exact b5
  · rw [gu_ne (by omega), gu_ne (by omega), gu_ne (by omega)]; exact b6
  · rw [gu_ne (by omega), gu_ne (by omega), gu_ne (by omega)]; exact b8
  · intro c
    by_cases hc : 183 ≤ c ∧ c < 183 + 2 * (nc + 1)
    · rw [QC_c b1 b2 hc.1 hc.2, gu_ne (by omega)]
      by_cases q1 : c = 183 + 2 * nc + 1
      · subst q1; rw [gu_at]; exact ⟨b, hb, rfl⟩
      · rw [gu_ne q1]
        by_cases q2 : c = 183 + 2 * nc
        · subst q2; rw [gu_at]; exact ⟨a, ha, rfl⟩
        · rw [gu_ne q2]; exact (QC_c b1 b2 hc.1 (by omega)).mp (b9 c)
    · by_cases h5 : c = 5
      · subst h5; exact QC_o (by omega)
      · rw [gu_ne h5, gu_ne (by omega), gu_ne (by omega)]
        have := b9 c
        unfold QC at this ⊢
        split
        · next q => rw [if_pos q] at this; exact this
        · next q1 =>
          rw [if_neg q1] at this
          split
          · next q => rw [if_pos q] at this; exact this
          · next q2 =>
            rw [if_neg q2] at this
            split
            · next q => rw [if_pos q] at this; exact this
            · next q3 =>
              rw [if_neg q3] at this
              split
              · next q => rw [if_pos q] at this; exact this
              · next q4 =>
                rw [if_neg q4] at this
                split
                · next q => rw [if_pos q] at this; exact this
                · next q5 =>
                  rw [if_neg q5] at this
                  split
                  · next q => rw [if_pos q] at this; exact this
                  · next q6 =>
                    rw [if_neg q6] at this
                    split
                    · next q => rw [if_pos q] at this; exact this
                    · next q7 =>
                      rw [if_neg q7] at this
                      split
                      · next q => rw [if_pos q] at this; exact this
                      · next q8 =>
                        rw [if_neg q8] at this
                        trivial
theorem repS_cb {st : Nat} (hB : Cb g ng nd nc h) (hs : st < ng) : Cb (repS g nd st) ng nd nc h := by
  have hng := hB.1
  have hnd := hB.2.1
  have hp : ∀ n, n ≤ nd → Cb (rpPay g nd st n) ng nd nc h := by
    intro n
    induction n with
    | zero => exact fun _ => hB
    | succ n ih => exact fun hn => Cb_gu (ih (by omega)) (by omega)
  unfold repS
  dsimp only
  have h1 := Cb_gu (k := 6) (v := rpPay g nd st nd 6 + (rpSum g nd st nd - jI 2 * g (15 + 10 * st + 1))) (hp nd (Nat.le_refl _)) (by omega)
  refine Cb_gu (k := 14) ?_ (by omega)
  obtain ⟨b1, b2, b3, b4, b5, b6, b7, ⟨w, hw, b8⟩, b9⟩ := h1
  refine ⟨b1, b2, b3, ?_, ?_, ?_, ?_, ⟨w, hw, ?_⟩, QI_gu b9 ((QC_l hng hs).mpr ⟨0, by omega, rfl⟩)⟩
  · rw [gu_ne (by omega)]; exact b4
  · rw [gu_ne (by omega)]; exact b5
  · rw [gu_ne (by omega)]; exact b6
  · rw [gu_ne (by omega)]; exact b7
  · rw [gu_ne (by omega)]; exact b8
theorem inf_cb {w : Nat} (hB : Cb g ng nd nc h) (hw : w ≤ 200) : Cb (gu g 1 (jI w)) ng nd nc h := by
  obtain ⟨b1, b2, b3, b4, b5, b6, b7, b8, b9⟩ := hB
  refine ⟨b1, b2, b3, ?_, ?_, ?_, ?_, ⟨w, hw, gu_at⟩, QI_o b9 (by omega)⟩
  · rw [gu_ne (by omega)]; exact b4
  · rw [gu_ne (by omega)]; exact b5
  · rw [gu_ne (by omega)]; exact b6
  · rw [gu_ne (by omega)]; exact b7
def SC (s : Sg) (ng nd : Nat) : Prop := Cb s.1 ng nd s.2.2.1 s.2.2.2
theorem ordX_cb {r : Rc} {s s' : Sg} (hB : SC s ng nd) (hh : s.2.2.2 < 2000000000) (h : ordX ng nd r s = .inl s') : SC s' ng nd := by
  obtain ⟨g, oh, nc, hr⟩ := s
  have hB' : Cb g ng nd nc hr := hB
  have hng := hB'.1
  have hnc := hB'.2.2.1
  dsimp only at hh
  unfold ordX at h
  dsimp only at h
  split at h
  · split at h
    · next q =>
      cases h
      exact opN_cb hB' (by omega) _ (by omega)
    · cases h
  · split at h
    · split at h
      · next q =>
        cases h
        exact hoursS_cb hB' _ (by omega)
      · cases h
    · split at h
      · split at h
        · next q =>
          cases h
          exact inf_cb hB' q
        · cases h
      · split at h
        · split at h
          · next q =>
            split at h
            · cases h
            · split at h
              · cases h
              · next q2 =>
                cases h
                exact cplS_cb hB' (by omega) q.1 q.2.1
          · cases h
        · split at h
          · next q =>
            split at h
            · cases h
            · split at h
              · cases h
              · split at h
                · cases h
                · cases h
                  exact repS_cb hB' q
          · cases h
theorem LD_opN {k a n : Nat} {p : Bool} (hnc : nc ≤ 8) (hk : k < 6) (hn : a + n ≤ 168) : LD σ o (opN g k a p n) ng nd nc = LD σ o g ng nd nc := LD_cg (fun j hj => opN_o (by omega) hk n hn)
theorem c_carry {r : Rc} (ho : DI o) (hB : Cb g ng nd nc h) (hh : h < 2000000000) (hO : OHc σ o ng oh) (hi : i < 20) (hT : odR (fun j k => σ (oA j) k) i r) (hr : RcB r)
    (D : ∀ s' σ', ordX ng nd r (g, oh, nc, h) = .inl s' → Fout o σ σ' → OHc σ' o ng s'.2.1 → K (.inl (some (.int (jI 0)))) (MM Ln (LD σ' o s'.1 ng nd s'.2.2.1) lo db))
    (W : ordX ng nd r (g, oh, nc, h) = .inr none → K (.inl (some (.int (jI 1)))) (MM Ln (LD σ o g ng nd nc) lo db))
    (R : ∀ x d, ordX ng nd r (g, oh, nc, h) = .inr (some (x, d)) → K (.inl (some (.int (jI 2)))) (MM Ln (LD (NT σ x d) o g ng nd nc) lo db)) :
    Ev 29 (0, [.ref o, .ref (oA i), .ref 367, .null], [], 0, 0, MM Ln (LD σ o g ng nd nc) lo db) K := by
  have hB0 := hB
  obtain ⟨hng, hnd, hnc, b4, b5, b6, b7, b8, hQ⟩ := hB
  obtain ⟨kd, x, y, z⟩ := r
  obtain ⟨t1, t2, t3, t4⟩ := hT
  obtain ⟨r0, r1, r2, r3⟩ := hr
  dsimp only at t1 t2 t3 t4 r0 r1 r2 r3
  unfold ordX at D W R
  dsimp only at D W R
  have n1 : (jI 1 = jI 0) = False := jI_nz (by decide) (by decide)
  simp (disch := first | assumption | omega) only [s_29_0, s_29_1, s_29_4_99, s_29_4_100, s_29_4_101, s_29_4_102, s_29_4_103, s_29_4_104, s_29_4_105, s_29_4_106, s_29_4_107, s_29_4_108, s_29_4_109, s_29_4_110, s_29_4_111, s_29_4_112, s_29_4_113, s_29_4_114, s_29_4_115, s_29_4_d, s_29_88, s_29_89, s_29_90, r_29_90, s_29_93, s_29_94, s_29_95, s_29_98, r_29_98, s_29_101, s_29_104, s_29_105, s_29_106, s_29_107, s_29_109, s_29_110, s_29_113, s_29_116, s_29_117, r_29_117, s_29_120, s_29_123, s_29_126, s_29_127, s_29_128, s_29_129, s_29_130, s_29_133, r_29_133, s_29_136, s_29_137, s_29_138, s_29_139, s_29_142, s_29_143, s_29_146, s_29_147, r_29_147, s_29_150, s_29_151, s_29_152, s_29_153, s_29_156, s_29_157, r_29_157, s_29_160, s_29_161, s_29_162, jI_mul, jI_add, jI_tnc, jI_ixT, true_and, and_true, bZ_0, bZ_1, bZ_b, jI_nz, jI_div, jI_rem, jI_mod, Nat.add_zero, bI_if, not_false_iff, if_true, if_false, eq_self, LX_od, t1]
  rcases r0 with rfl | rfl | rfl | rfl | rfl | rfl
  · have t3 := t3 (Or.inl rfl)
    rw [if_neg (by decide), if_neg (by decide), if_neg (by decide), if_pos rfl] at D W R
    simp (disch := first | assumption | omega) only [s_29_0, s_29_1, s_29_4_99, s_29_4_100, s_29_4_101, s_29_4_102, s_29_4_103, s_29_4_104, s_29_4_105, s_29_4_106, s_29_4_107, s_29_4_108, s_29_4_109, s_29_4_110, s_29_4_111, s_29_4_112, s_29_4_113, s_29_4_114, s_29_4_115, s_29_4_d, s_29_88, s_29_89, s_29_90, r_29_90, s_29_93, s_29_94, s_29_95, s_29_98, r_29_98, s_29_101, s_29_104, s_29_105, s_29_106, s_29_107, s_29_109, s_29_110, s_29_113, s_29_116, s_29_117, r_29_117, s_29_120, s_29_123, s_29_126, s_29_127, s_29_128, s_29_129, s_29_130, s_29_133, r_29_133, s_29_136, s_29_137, s_29_138, s_29_139, s_29_142, s_29_143, s_29_146, s_29_147, r_29_147, s_29_150, s_29_151, s_29_152, s_29_153, s_29_156, s_29_157, r_29_157, s_29_160, s_29_161, s_29_162, s_32_0, s_32_1, s_32_2, r_32_2, s_32_5, s_32_8, s_32_9, s_32_10, r_32_10, s_32_13, s_32_16, s_32_17, s_32_18, s_32_21, s_32_22, s_32_23, s_32_24, s_32_25, s_32_26, s_32_27, r_32_27, s_32_30, s_32_33, s_32_34, s_32_35, s_32_36, s_32_37, s_32_38, r_32_38, s_32_41, s_32_42, jI_mul, jI_add, jI_tnc, jI_ixT, true_and, and_true, bZ_0, bZ_1, bZ_b, jI_nz, jI_div, jI_rem, jI_mod, Nat.add_zero, bI_if, not_false_iff, if_true, if_false, eq_self, LX_od, t2, t3, c_hasN, hs_jI, jI_inj]
    by_cases q1 : x < nd
    · rw [if_pos q1]
      by_cases q2 : y < nd
      · rw [if_pos q2]
        by_cases q3 : x = y
        · rw [if_pos q3]
          try simp (disch := first | assumption | omega) only [s_29_0, s_29_1, s_29_4_99, s_29_4_100, s_29_4_101, s_29_4_102, s_29_4_103, s_29_4_104, s_29_4_105, s_29_4_106, s_29_4_107, s_29_4_108, s_29_4_109, s_29_4_110, s_29_4_111, s_29_4_112, s_29_4_113, s_29_4_114, s_29_4_115, s_29_4_d, s_29_88, s_29_89, s_29_90, r_29_90, s_29_93, s_29_94, s_29_95, s_29_98, r_29_98, s_29_101, s_29_104, s_29_105, s_29_106, s_29_107, s_29_109, s_29_110, s_29_113, s_29_116, s_29_117, r_29_117, s_29_120, s_29_123, s_29_126, s_29_127, s_29_128, s_29_129, s_29_130, s_29_133, r_29_133, s_29_136, s_29_137, s_29_138, s_29_139, s_29_142, s_29_143, s_29_146, s_29_147, r_29_147, s_29_150, s_29_151, s_29_152, s_29_153, s_29_156, s_29_157, r_29_157, s_29_160, s_29_161, s_29_162, s_32_0, s_32_1, s_32_2, r_32_2, s_32_5, s_32_8, s_32_9, s_32_10, r_32_10, s_32_13, s_32_16, s_32_17, s_32_18, s_32_21, s_32_22, s_32_23, s_32_24, s_32_25, s_32_26, s_32_27, r_32_27, s_32_30, s_32_33, s_32_34, s_32_35, s_32_36, s_32_37, s_32_38, r_32_38, s_32_41, s_32_42, jI_mul, jI_add, jI_tnc, jI_ixT, true_and, and_true, bZ_0, bZ_1, bZ_b, jI_nz, jI_div, jI_rem, jI_mod, Nat.add_zero, bI_if, not_false_iff, if_true, if_false, eq_self]
          exact W (if_neg (by omega))
        · rw [if_neg q3]
          try simp (disch := first | assumption | omega) only [s_29_0, s_29_1, s_29_4_99, s_29_4_100, s_29_4_101, s_29_4_102, s_29_4_103, s_29_4_104, s_29_4_105, s_29_4_106, s_29_4_107, s_29_4_108, s_29_4_109, s_29_4_110, s_29_4_111, s_29_4_112, s_29_4_113, s_29_4_114, s_29_4_115, s_29_4_d, s_29_88, s_29_89, s_29_90, r_29_90, s_29_93, s_29_94, s_29_95, s_29_98, r_29_98, s_29_101, s_29_104, s_29_105, s_29_106, s_29_107, s_29_109, s_29_110, s_29_113, s_29_116, s_29_117, r_29_117, s_29_120, s_29_123, s_29_126, s_29_127, s_29_128, s_29_129, s_29_130, s_29_133, r_29_133, s_29_136, s_29_137, s_29_138, s_29_139, s_29_142, s_29_143, s_29_146, s_29_147, r_29_147, s_29_150, s_29_151, s_29_152, s_29_153, s_29_156, s_29_157, r_29_157, s_29_160, s_29_161, s_29_162, s_32_0, s_32_1, s_32_2, r_32_2, s_32_5, s_32_8, s_32_9, s_32_10, r_32_10, s_32_13, s_32_16, s_32_17, s_32_18, s_32_21, s_32_22, s_32_23, s_32_24, s_32_25, s_32_26, s_32_27, r_32_27, s_32_30, s_32_33, s_32_34, s_32_35, s_32_36, s_32_37, s_32_38, r_32_38, s_32_41, s_32_42, jI_mul, jI_add, jI_tnc, jI_ixT, true_and, and_true, bZ_0, bZ_1, bZ_b, jI_nz, jI_div, jI_rem, jI_mod, Nat.add_zero, bI_if, not_false_iff, if_true, if_false, eq_self]
          refine c_refC ho hng hnd hnc b7 (fun i q4 q5 q6 q7 => ?_) (fun q4 q5 => ?_) (fun q4 q5 => ?_)
          · simp (disch := first | assumption | omega) only [s_29_0, s_29_1, s_29_4_99, s_29_4_100, s_29_4_101, s_29_4_102, s_29_4_103, s_29_4_104, s_29_4_105, s_29_4_106, s_29_4_107, s_29_4_108, s_29_4_109, s_29_4_110, s_29_4_111, s_29_4_112, s_29_4_113, s_29_4_114, s_29_4_115, s_29_4_d, s_29_88, s_29_89, s_29_90, r_29_90, s_29_93, s_29_94, s_29_95, s_29_98, r_29_98, s_29_101, s_29_104, s_29_105, s_29_106, s_29_107, s_29_109, s_29_110, s_29_113, s_29_116, s_29_117, r_29_117, s_29_120, s_29_123, s_29_126, s_29_127, s_29_128, s_29_129, s_29_130, s_29_133, r_29_133, s_29_136, s_29_137, s_29_138, s_29_139, s_29_142, s_29_143, s_29_146, s_29_147, r_29_147, s_29_150, s_29_151, s_29_152, s_29_153, s_29_156, s_29_157, r_29_157, s_29_160, s_29_161, s_29_162, s_32_0, s_32_1, s_32_2, r_32_2, s_32_5, s_32_8, s_32_9, s_32_10, r_32_10, s_32_13, s_32_16, s_32_17, s_32_18, s_32_21, s_32_22, s_32_23, s_32_24, s_32_25, s_32_26, s_32_27, r_32_27, s_32_30, s_32_33, s_32_34, s_32_35, s_32_36, s_32_37, s_32_38, r_32_38, s_32_41, s_32_42, jI_mul, jI_add, jI_tnc, jI_ixT, true_and, and_true, bZ_0, bZ_1, bZ_b, jI_nz, jI_div, jI_rem, jI_mod, Nat.add_zero, bI_if, not_false_iff, if_true, if_false, eq_self, n1]
            refine R 2 (jI i) ?_
            rw [if_pos (by omega), plc_yes (p := cmpAt g (jI x) (jI y)) nc q4 (decide_eq_true ⟨q5, q6⟩) (fun j hj e => q7 j hj (of_decide_eq_true e))]
          · simp (disch := first | assumption | omega) only [s_29_0, s_29_1, s_29_4_99, s_29_4_100, s_29_4_101, s_29_4_102, s_29_4_103, s_29_4_104, s_29_4_105, s_29_4_106, s_29_4_107, s_29_4_108, s_29_4_109, s_29_4_110, s_29_4_111, s_29_4_112, s_29_4_113, s_29_4_114, s_29_4_115, s_29_4_d, s_29_88, s_29_89, s_29_90, r_29_90, s_29_93, s_29_94, s_29_95, s_29_98, r_29_98, s_29_101, s_29_104, s_29_105, s_29_106, s_29_107, s_29_109, s_29_110, s_29_113, s_29_116, s_29_117, r_29_117, s_29_120, s_29_123, s_29_126, s_29_127, s_29_128, s_29_129, s_29_130, s_29_133, r_29_133, s_29_136, s_29_137, s_29_138, s_29_139, s_29_142, s_29_143, s_29_146, s_29_147, r_29_147, s_29_150, s_29_151, s_29_152, s_29_153, s_29_156, s_29_157, r_29_157, s_29_160, s_29_161, s_29_162, s_32_0, s_32_1, s_32_2, r_32_2, s_32_5, s_32_8, s_32_9, s_32_10, r_32_10, s_32_13, s_32_16, s_32_17, s_32_18, s_32_21, s_32_22, s_32_23, s_32_24, s_32_25, s_32_26, s_32_27, r_32_27, s_32_30, s_32_33, s_32_34, s_32_35, s_32_36, s_32_37, s_32_38, r_32_38, s_32_41, s_32_42, jI_mul, jI_add, jI_tnc, jI_ixT, true_and, and_true, bZ_0, bZ_1, bZ_b, jI_nz, jI_div, jI_rem, jI_mod, Nat.add_zero, bI_if, not_false_iff, if_true, if_false, eq_self, n1]
            refine R 1 (jI 8) ?_
            rw [if_pos (by omega), plc_no (p := cmpAt g (jI x) (jI y)) nc (fun j hj e => q4 j hj (of_decide_eq_true e))]
            exact if_pos q5
          · simp (disch := first | assumption | omega) only [s_29_0, s_29_1, s_29_4_99, s_29_4_100, s_29_4_101, s_29_4_102, s_29_4_103, s_29_4_104, s_29_4_105, s_29_4_106, s_29_4_107, s_29_4_108, s_29_4_109, s_29_4_110, s_29_4_111, s_29_4_112, s_29_4_113, s_29_4_114, s_29_4_115, s_29_4_d, s_29_88, s_29_89, s_29_90, r_29_90, s_29_93, s_29_94, s_29_95, s_29_98, r_29_98, s_29_101, s_29_104, s_29_105, s_29_106, s_29_107, s_29_109, s_29_110, s_29_113, s_29_116, s_29_117, r_29_117, s_29_120, s_29_123, s_29_126, s_29_127, s_29_128, s_29_129, s_29_130, s_29_133, r_29_133, s_29_136, s_29_137, s_29_138, s_29_139, s_29_142, s_29_143, s_29_146, s_29_147, r_29_147, s_29_150, s_29_151, s_29_152, s_29_153, s_29_156, s_29_157, r_29_157, s_29_160, s_29_161, s_29_162, s_32_0, s_32_1, s_32_2, r_32_2, s_32_5, s_32_8, s_32_9, s_32_10, r_32_10, s_32_13, s_32_16, s_32_17, s_32_18, s_32_21, s_32_22, s_32_23, s_32_24, s_32_25, s_32_26, s_32_27, r_32_27, s_32_30, s_32_33, s_32_34, s_32_35, s_32_36, s_32_37, s_32_38, r_32_38, s_32_41, s_32_42, jI_mul, jI_add, jI_tnc, jI_ixT, true_and, and_true, bZ_0, bZ_1, bZ_b, jI_nz, jI_div, jI_rem, jI_mod, Nat.add_zero, bI_if, not_false_iff, if_true, if_false, eq_self]
            refine c_addC ho hng hnd q5 b7 (fun σ' f1 => ?_)
            simp (disch := first | assumption | omega) only [s_29_0, s_29_1, s_29_4_99, s_29_4_100, s_29_4_101, s_29_4_102, s_29_4_103, s_29_4_104, s_29_4_105, s_29_4_106, s_29_4_107, s_29_4_108, s_29_4_109, s_29_4_110, s_29_4_111, s_29_4_112, s_29_4_113, s_29_4_114, s_29_4_115, s_29_4_d, s_29_88, s_29_89, s_29_90, r_29_90, s_29_93, s_29_94, s_29_95, s_29_98, r_29_98, s_29_101, s_29_104, s_29_105, s_29_106, s_29_107, s_29_109, s_29_110, s_29_113, s_29_116, s_29_117, r_29_117, s_29_120, s_29_123, s_29_126, s_29_127, s_29_128, s_29_129, s_29_130, s_29_133, r_29_133, s_29_136, s_29_137, s_29_138, s_29_139, s_29_142, s_29_143, s_29_146, s_29_147, r_29_147, s_29_150, s_29_151, s_29_152, s_29_153, s_29_156, s_29_157, r_29_157, s_29_160, s_29_161, s_29_162, s_32_0, s_32_1, s_32_2, r_32_2, s_32_5, s_32_8, s_32_9, s_32_10, r_32_10, s_32_13, s_32_16, s_32_17, s_32_18, s_32_21, s_32_22, s_32_23, s_32_24, s_32_25, s_32_26, s_32_27, r_32_27, s_32_30, s_32_33, s_32_34, s_32_35, s_32_36, s_32_37, s_32_38, r_32_38, s_32_41, s_32_42, jI_mul, jI_add, jI_tnc, jI_ixT, true_and, and_true, bZ_0, bZ_1, bZ_b, jI_nz, jI_div, jI_rem, jI_mod, Nat.add_zero, bI_if, not_false_iff, if_true, if_false, eq_self]
            refine D (cplS g nc (jI x) (jI y), oh, nc + 1, h) σ' ?_ f1.1 (f1.toOH hng hO)
            rw [if_pos (by omega), plc_no (p := cmpAt g (jI x) (jI y)) nc (fun j hj e => q4 j hj (of_decide_eq_true e))]
            exact if_neg (by omega)
      · rw [if_neg q2]
        try simp (disch := first | assumption | omega) only [s_29_0, s_29_1, s_29_4_99, s_29_4_100, s_29_4_101, s_29_4_102, s_29_4_103, s_29_4_104, s_29_4_105, s_29_4_106, s_29_4_107, s_29_4_108, s_29_4_109, s_29_4_110, s_29_4_111, s_29_4_112, s_29_4_113, s_29_4_114, s_29_4_115, s_29_4_d, s_29_88, s_29_89, s_29_90, r_29_90, s_29_93, s_29_94, s_29_95, s_29_98, r_29_98, s_29_101, s_29_104, s_29_105, s_29_106, s_29_107, s_29_109, s_29_110, s_29_113, s_29_116, s_29_117, r_29_117, s_29_120, s_29_123, s_29_126, s_29_127, s_29_128, s_29_129, s_29_130, s_29_133, r_29_133, s_29_136, s_29_137, s_29_138, s_29_139, s_29_142, s_29_143, s_29_146, s_29_147, r_29_147, s_29_150, s_29_151, s_29_152, s_29_153, s_29_156, s_29_157, r_29_157, s_29_160, s_29_161, s_29_162, s_32_0, s_32_1, s_32_2, r_32_2, s_32_5, s_32_8, s_32_9, s_32_10, r_32_10, s_32_13, s_32_16, s_32_17, s_32_18, s_32_21, s_32_22, s_32_23, s_32_24, s_32_25, s_32_26, s_32_27, r_32_27, s_32_30, s_32_33, s_32_34, s_32_35, s_32_36, s_32_37, s_32_38, r_32_38, s_32_41, s_32_42, jI_mul, jI_add, jI_tnc, jI_ixT, true_and, and_true, bZ_0, bZ_1, bZ_b, jI_nz, jI_div, jI_rem, jI_mod, Nat.add_zero, bI_if, not_false_iff, if_true, if_false, eq_self]
        exact W (if_neg (by omega))
    · rw [if_neg q1]
      try simp (disch := first | assumption | omega) only [s_29_0, s_29_1, s_29_4_99, s_29_4_100, s_29_4_101, s_29_4_102, s_29_4_103, s_29_4_104, s_29_4_105, s_29_4_106, s_29_4_107, s_29_4_108, s_29_4_109, s_29_4_110, s_29_4_111, s_29_4_112, s_29_4_113, s_29_4_114, s_29_4_115, s_29_4_d, s_29_88, s_29_89, s_29_90, r_29_90, s_29_93, s_29_94, s_29_95, s_29_98, r_29_98, s_29_101, s_29_104, s_29_105, s_29_106, s_29_107, s_29_109, s_29_110, s_29_113, s_29_116, s_29_117, r_29_117, s_29_120, s_29_123, s_29_126, s_29_127, s_29_128, s_29_129, s_29_130, s_29_133, r_29_133, s_29_136, s_29_137, s_29_138, s_29_139, s_29_142, s_29_143, s_29_146, s_29_147, r_29_147, s_29_150, s_29_151, s_29_152, s_29_153, s_29_156, s_29_157, r_29_157, s_29_160, s_29_161, s_29_162, s_32_0, s_32_1, s_32_2, r_32_2, s_32_5, s_32_8, s_32_9, s_32_10, r_32_10, s_32_13, s_32_16, s_32_17, s_32_18, s_32_21, s_32_22, s_32_23, s_32_24, s_32_25, s_32_26, s_32_27, r_32_27, s_32_30, s_32_33, s_32_34, s_32_35, s_32_36, s_32_37, s_32_38, r_32_38, s_32_41, s_32_42, jI_mul, jI_add, jI_tnc, jI_ixT, true_and, and_true, bZ_0, bZ_1, bZ_b, jI_nz, jI_div, jI_rem, jI_mod, Nat.add_zero, bI_if, not_false_iff, if_true, if_false, eq_self]
      exact W (if_neg (by omega))
  · rw [if_neg (by decide), if_pos rfl] at D W R
    simp (disch := first | assumption | omega) only [s_29_0, s_29_1, s_29_4_99, s_29_4_100, s_29_4_101, s_29_4_102, s_29_4_103, s_29_4_104, s_29_4_105, s_29_4_106, s_29_4_107, s_29_4_108, s_29_4_109, s_29_4_110, s_29_4_111, s_29_4_112, s_29_4_113, s_29_4_114, s_29_4_115, s_29_4_d, s_29_88, s_29_89, s_29_90, r_29_90, s_29_93, s_29_94, s_29_95, s_29_98, r_29_98, s_29_101, s_29_104, s_29_105, s_29_106, s_29_107, s_29_109, s_29_110, s_29_113, s_29_116, s_29_117, r_29_117, s_29_120, s_29_123, s_29_126, s_29_127, s_29_128, s_29_129, s_29_130, s_29_133, r_29_133, s_29_136, s_29_137, s_29_138, s_29_139, s_29_142, s_29_143, s_29_146, s_29_147, r_29_147, s_29_150, s_29_151, s_29_152, s_29_153, s_29_156, s_29_157, r_29_157, s_29_160, s_29_161, s_29_162, jI_mul, jI_add, jI_tnc, jI_ixT, true_and, and_true, bZ_0, bZ_1, bZ_b, jI_nz, jI_div, jI_rem, jI_mod, Nat.add_zero, bI_if, not_false_iff, if_true, if_false, eq_self, LX_od, t2, c_span]
    by_cases q : 1 ≤ x ∧ x ≤ 200
    · rw [if_pos ((rng_iff (by omega) (by omega) (by omega)).mpr q)]
      try simp (disch := first | assumption | omega) only [s_29_0, s_29_1, s_29_4_99, s_29_4_100, s_29_4_101, s_29_4_102, s_29_4_103, s_29_4_104, s_29_4_105, s_29_4_106, s_29_4_107, s_29_4_108, s_29_4_109, s_29_4_110, s_29_4_111, s_29_4_112, s_29_4_113, s_29_4_114, s_29_4_115, s_29_4_d, s_29_88, s_29_89, s_29_90, r_29_90, s_29_93, s_29_94, s_29_95, s_29_98, r_29_98, s_29_101, s_29_104, s_29_105, s_29_106, s_29_107, s_29_109, s_29_110, s_29_113, s_29_116, s_29_117, r_29_117, s_29_120, s_29_123, s_29_126, s_29_127, s_29_128, s_29_129, s_29_130, s_29_133, r_29_133, s_29_136, s_29_137, s_29_138, s_29_139, s_29_142, s_29_143, s_29_146, s_29_147, r_29_147, s_29_150, s_29_151, s_29_152, s_29_153, s_29_156, s_29_157, r_29_157, s_29_160, s_29_161, s_29_162, jI_mul, jI_add, jI_tnc, jI_ixT, true_and, and_true, bZ_0, bZ_1, bZ_b, jI_nz, jI_div, jI_rem, jI_mod, Nat.add_zero, bI_if, not_false_iff, if_true, if_false, eq_self]
      refine lup0 x (fun j q => ∃ σ', q = (108, [.ref o, .ref (oA i), .ref 367, .int (jI j)], [], 0, 0, MM Ln (LD σ' o (hoursS oh ng nd nc h g j).1 ng nd (hoursS oh ng nd nc h g j).2) lo db) ∧ Fo o σ σ') ⟨_, rfl, Fo.refl⟩ ?_ ?_
      · rintro j q' hj ⟨σ', rfl, f1⟩ hn
        have et : σ' (oA i) 1 = jI x := by rw [f1.1 (oA i) (Or.inr (DI_hi ho (by unfold oA; omega)))]; exact t2
        rw [s_29_108]
        simp (disch := first | assumption | omega) only [s_29_0, s_29_1, s_29_4_99, s_29_4_100, s_29_4_101, s_29_4_102, s_29_4_103, s_29_4_104, s_29_4_105, s_29_4_106, s_29_4_107, s_29_4_108, s_29_4_109, s_29_4_110, s_29_4_111, s_29_4_112, s_29_4_113, s_29_4_114, s_29_4_115, s_29_4_d, s_29_88, s_29_89, s_29_90, r_29_90, s_29_93, s_29_94, s_29_95, s_29_98, r_29_98, s_29_101, s_29_104, s_29_105, s_29_106, s_29_107, s_29_109, s_29_110, s_29_113, s_29_116, s_29_117, r_29_117, s_29_120, s_29_123, s_29_126, s_29_127, s_29_128, s_29_129, s_29_130, s_29_133, r_29_133, s_29_136, s_29_137, s_29_138, s_29_139, s_29_142, s_29_143, s_29_146, s_29_147, r_29_147, s_29_150, s_29_151, s_29_152, s_29_153, s_29_156, s_29_157, r_29_157, s_29_160, s_29_161, s_29_162, jI_mul, jI_add, jI_tnc, jI_ixT, true_and, and_true, bZ_0, bZ_1, bZ_b, jI_nz, jI_div, jI_rem, jI_mod, Nat.add_zero, bI_if, not_false_iff, if_true, if_false, eq_self, LX_od, et, jI_le]
        rw [if_neg (by omega)]
        refine c_hour ho (hoursS_cb hB0 j (by omega)) (by omega) (f1.toOH hng hO) (fun σ'' f2 => ?_)
        simp (disch := first | assumption | omega) only [s_29_0, s_29_1, s_29_4_99, s_29_4_100, s_29_4_101, s_29_4_102, s_29_4_103, s_29_4_104, s_29_4_105, s_29_4_106, s_29_4_107, s_29_4_108, s_29_4_109, s_29_4_110, s_29_4_111, s_29_4_112, s_29_4_113, s_29_4_114, s_29_4_115, s_29_4_d, s_29_88, s_29_89, s_29_90, r_29_90, s_29_93, s_29_94, s_29_95, s_29_98, r_29_98, s_29_101, s_29_104, s_29_105, s_29_106, s_29_107, s_29_109, s_29_110, s_29_113, s_29_116, s_29_117, r_29_117, s_29_120, s_29_123, s_29_126, s_29_127, s_29_128, s_29_129, s_29_130, s_29_133, r_29_133, s_29_136, s_29_137, s_29_138, s_29_139, s_29_142, s_29_143, s_29_146, s_29_147, r_29_147, s_29_150, s_29_151, s_29_152, s_29_153, s_29_156, s_29_157, r_29_157, s_29_160, s_29_161, s_29_162, jI_mul, jI_add, jI_tnc, jI_ixT, true_and, and_true, bZ_0, bZ_1, bZ_b, jI_nz, jI_div, jI_rem, jI_mod, Nat.add_zero, bI_if, not_false_iff, if_true, if_false, eq_self]
        exact hn _ ⟨σ'', rfl, f1.trans f2⟩
      · rintro q' ⟨σ', rfl, f1⟩
        have et : σ' (oA i) 1 = jI x := by rw [f1.1 (oA i) (Or.inr (DI_hi ho (by unfold oA; omega)))]; exact t2
        rw [s_29_108]
        simp (disch := first | assumption | omega) only [s_29_0, s_29_1, s_29_4_99, s_29_4_100, s_29_4_101, s_29_4_102, s_29_4_103, s_29_4_104, s_29_4_105, s_29_4_106, s_29_4_107, s_29_4_108, s_29_4_109, s_29_4_110, s_29_4_111, s_29_4_112, s_29_4_113, s_29_4_114, s_29_4_115, s_29_4_d, s_29_88, s_29_89, s_29_90, r_29_90, s_29_93, s_29_94, s_29_95, s_29_98, r_29_98, s_29_101, s_29_104, s_29_105, s_29_106, s_29_107, s_29_109, s_29_110, s_29_113, s_29_116, s_29_117, r_29_117, s_29_120, s_29_123, s_29_126, s_29_127, s_29_128, s_29_129, s_29_130, s_29_133, r_29_133, s_29_136, s_29_137, s_29_138, s_29_139, s_29_142, s_29_143, s_29_146, s_29_147, r_29_147, s_29_150, s_29_151, s_29_152, s_29_153, s_29_156, s_29_157, r_29_157, s_29_160, s_29_161, s_29_162, jI_mul, jI_add, jI_tnc, jI_ixT, true_and, and_true, bZ_0, bZ_1, bZ_b, jI_nz, jI_div, jI_rem, jI_mod, Nat.add_zero, bI_if, not_false_iff, if_true, if_false, eq_self, LX_od, et, Int32.le_refl, if_true]
        exact D ((hoursS oh ng nd nc h g x).1, oh, (hoursS oh ng nd nc h g x).2, h + x) σ' (if_pos q) f1.1 (f1.toOH hng hO)
    · rw [if_neg (fun e => q ((rng_iff (by omega) (by omega) (by omega)).mp e))]
      try simp (disch := first | assumption | omega) only [s_29_0, s_29_1, s_29_4_99, s_29_4_100, s_29_4_101, s_29_4_102, s_29_4_103, s_29_4_104, s_29_4_105, s_29_4_106, s_29_4_107, s_29_4_108, s_29_4_109, s_29_4_110, s_29_4_111, s_29_4_112, s_29_4_113, s_29_4_114, s_29_4_115, s_29_4_d, s_29_88, s_29_89, s_29_90, r_29_90, s_29_93, s_29_94, s_29_95, s_29_98, r_29_98, s_29_101, s_29_104, s_29_105, s_29_106, s_29_107, s_29_109, s_29_110, s_29_113, s_29_116, s_29_117, r_29_117, s_29_120, s_29_123, s_29_126, s_29_127, s_29_128, s_29_129, s_29_130, s_29_133, r_29_133, s_29_136, s_29_137, s_29_138, s_29_139, s_29_142, s_29_143, s_29_146, s_29_147, r_29_147, s_29_150, s_29_151, s_29_152, s_29_153, s_29_156, s_29_157, r_29_157, s_29_160, s_29_161, s_29_162, jI_mul, jI_add, jI_tnc, jI_ixT, true_and, and_true, bZ_0, bZ_1, bZ_b, jI_nz, jI_div, jI_rem, jI_mod, Nat.add_zero, bI_if, not_false_iff, if_true, if_false, eq_self]
      exact W (if_neg q)
  · rw [if_neg (by decide), if_neg (by decide), if_pos rfl] at D W
    simp (disch := first | assumption | omega) only [s_29_0, s_29_1, s_29_4_99, s_29_4_100, s_29_4_101, s_29_4_102, s_29_4_103, s_29_4_104, s_29_4_105, s_29_4_106, s_29_4_107, s_29_4_108, s_29_4_109, s_29_4_110, s_29_4_111, s_29_4_112, s_29_4_113, s_29_4_114, s_29_4_115, s_29_4_d, s_29_88, s_29_89, s_29_90, r_29_90, s_29_93, s_29_94, s_29_95, s_29_98, r_29_98, s_29_101, s_29_104, s_29_105, s_29_106, s_29_107, s_29_109, s_29_110, s_29_113, s_29_116, s_29_117, r_29_117, s_29_120, s_29_123, s_29_126, s_29_127, s_29_128, s_29_129, s_29_130, s_29_133, r_29_133, s_29_136, s_29_137, s_29_138, s_29_139, s_29_142, s_29_143, s_29_146, s_29_147, r_29_147, s_29_150, s_29_151, s_29_152, s_29_153, s_29_156, s_29_157, r_29_157, s_29_160, s_29_161, s_29_162, s_31_0, s_31_1, r_31_1, s_31_4, s_31_7, s_31_8, s_31_9, s_31_10, s_31_11, s_31_14, s_31_15, jI_mul, jI_add, jI_tnc, jI_ixT, true_and, and_true, bZ_0, bZ_1, bZ_b, jI_nz, jI_div, jI_rem, jI_mod, Nat.add_zero, bI_if, not_false_iff, if_true, if_false, eq_self, LX_od, t2, c_inflow]
    by_cases q : x ≤ 200
    · rw [if_pos ((rng_iff (by omega) (by omega) (by omega)).mpr (by omega))]
      try simp (disch := first | assumption | omega) only [s_29_0, s_29_1, s_29_4_99, s_29_4_100, s_29_4_101, s_29_4_102, s_29_4_103, s_29_4_104, s_29_4_105, s_29_4_106, s_29_4_107, s_29_4_108, s_29_4_109, s_29_4_110, s_29_4_111, s_29_4_112, s_29_4_113, s_29_4_114, s_29_4_115, s_29_4_d, s_29_88, s_29_89, s_29_90, r_29_90, s_29_93, s_29_94, s_29_95, s_29_98, r_29_98, s_29_101, s_29_104, s_29_105, s_29_106, s_29_107, s_29_109, s_29_110, s_29_113, s_29_116, s_29_117, r_29_117, s_29_120, s_29_123, s_29_126, s_29_127, s_29_128, s_29_129, s_29_130, s_29_133, r_29_133, s_29_136, s_29_137, s_29_138, s_29_139, s_29_142, s_29_143, s_29_146, s_29_147, r_29_147, s_29_150, s_29_151, s_29_152, s_29_153, s_29_156, s_29_157, r_29_157, s_29_160, s_29_161, s_29_162, s_31_0, s_31_1, r_31_1, s_31_4, s_31_7, s_31_8, s_31_9, s_31_10, s_31_11, s_31_14, s_31_15, jI_mul, jI_add, jI_tnc, jI_ixT, true_and, and_true, bZ_0, bZ_1, bZ_b, jI_nz, jI_div, jI_rem, jI_mod, Nat.add_zero, bI_if, not_false_iff, if_true, if_false, eq_self, LD_us6, LD_us7, LD_us8, LD_us9, LD_us10, LD_us11, LD_us12, LD_ub0, LD_ub1, LD_ub2, LD_ub3, LD_ub4, LD_ub5, LD_ub6, LD_ub7, LD_ug1, LD_ug2, LD_ug3, LD_ug4, LD_un0, LD_un1, LD_un2, LD_un3, LD_un4, LD_un5, LD_un6, LD_un7, LD_un8, LD_uor, LD_uoh]
      exact D (gu g 1 (jI x), oh, nc, h) σ (if_pos q) (fun _ _ => rfl) hO
    · rw [if_neg (fun e => q ((rng_iff (by omega) (by omega) (by omega)).mp e).2)]
      try simp (disch := first | assumption | omega) only [s_29_0, s_29_1, s_29_4_99, s_29_4_100, s_29_4_101, s_29_4_102, s_29_4_103, s_29_4_104, s_29_4_105, s_29_4_106, s_29_4_107, s_29_4_108, s_29_4_109, s_29_4_110, s_29_4_111, s_29_4_112, s_29_4_113, s_29_4_114, s_29_4_115, s_29_4_d, s_29_88, s_29_89, s_29_90, r_29_90, s_29_93, s_29_94, s_29_95, s_29_98, r_29_98, s_29_101, s_29_104, s_29_105, s_29_106, s_29_107, s_29_109, s_29_110, s_29_113, s_29_116, s_29_117, r_29_117, s_29_120, s_29_123, s_29_126, s_29_127, s_29_128, s_29_129, s_29_130, s_29_133, r_29_133, s_29_136, s_29_137, s_29_138, s_29_139, s_29_142, s_29_143, s_29_146, s_29_147, r_29_147, s_29_150, s_29_151, s_29_152, s_29_153, s_29_156, s_29_157, r_29_157, s_29_160, s_29_161, s_29_162, s_31_0, s_31_1, r_31_1, s_31_4, s_31_7, s_31_8, s_31_9, s_31_10, s_31_11, s_31_14, s_31_15, jI_mul, jI_add, jI_tnc, jI_ixT, true_and, and_true, bZ_0, bZ_1, bZ_b, jI_nz, jI_div, jI_rem, jI_mod, Nat.add_zero, bI_if, not_false_iff, if_true, if_false, eq_self]
      exact W (if_neg q)
  · have t3 := t3 (Or.inr (Or.inl rfl))
    have t4 := t4 (Or.inl rfl)
    rw [if_pos (Or.inl rfl)] at D W R
    simp (disch := first | assumption | omega) only [s_29_0, s_29_1, s_29_4_99, s_29_4_100, s_29_4_101, s_29_4_102, s_29_4_103, s_29_4_104, s_29_4_105, s_29_4_106, s_29_4_107, s_29_4_108, s_29_4_109, s_29_4_110, s_29_4_111, s_29_4_112, s_29_4_113, s_29_4_114, s_29_4_115, s_29_4_d, s_29_88, s_29_89, s_29_90, r_29_90, s_29_93, s_29_94, s_29_95, s_29_98, r_29_98, s_29_101, s_29_104, s_29_105, s_29_106, s_29_107, s_29_109, s_29_110, s_29_113, s_29_116, s_29_117, r_29_117, s_29_120, s_29_123, s_29_126, s_29_127, s_29_128, s_29_129, s_29_130, s_29_133, r_29_133, s_29_136, s_29_137, s_29_138, s_29_139, s_29_142, s_29_143, s_29_146, s_29_147, r_29_147, s_29_150, s_29_151, s_29_152, s_29_153, s_29_156, s_29_157, r_29_157, s_29_160, s_29_161, s_29_162, s_30_0, s_30_1, s_30_2, s_30_5, r_30_5, s_30_8, s_30_11, s_30_12, s_30_15, s_30_16, s_30_19, r_30_19, s_30_22, s_30_25, s_30_26, s_30_27, s_30_28, s_30_31, s_30_32, s_30_35, s_30_36, s_30_37, s_30_40, s_30_41, s_30_44, s_30_45, s_30_48, s_30_50, s_30_53, s_30_54, s_30_57, s_30_58, r_30_58, s_30_61, s_30_62, jI_mul, jI_add, jI_tnc, jI_ixT, true_and, and_true, bZ_0, bZ_1, bZ_b, jI_nz, jI_div, jI_rem, jI_mod, Nat.add_zero, bI_if, not_false_iff, if_true, if_false, eq_self, LX_od, t1, t2, t3, t4, c_hasG, hs_jI, c_area, jI_lt]
    by_cases q1 : x < ng
    · rw [if_pos q1]
      by_cases q2 : ¬ y < 0 ∧ ¬ z < y ∧ z < 168
      · rw [if_pos q2]
        obtain ⟨m, rfl⟩ : ∃ m, z = y + m := ⟨z - y, by omega⟩
        have hs := fun {K : Ou → Me → Prop} => c_setHours (K := K) (Ln := Ln) (σ := σ) (g := g) (lo := lo) (db := db) (nc := nc) (i := x) (a := y) (n := m) (p := true) ho hng hnd q1 q2.2.2
        try simp (disch := first | assumption | omega) only [s_29_0, s_29_1, s_29_4_99, s_29_4_100, s_29_4_101, s_29_4_102, s_29_4_103, s_29_4_104, s_29_4_105, s_29_4_106, s_29_4_107, s_29_4_108, s_29_4_109, s_29_4_110, s_29_4_111, s_29_4_112, s_29_4_113, s_29_4_114, s_29_4_115, s_29_4_d, s_29_88, s_29_89, s_29_90, r_29_90, s_29_93, s_29_94, s_29_95, s_29_98, r_29_98, s_29_101, s_29_104, s_29_105, s_29_106, s_29_107, s_29_109, s_29_110, s_29_113, s_29_116, s_29_117, r_29_117, s_29_120, s_29_123, s_29_126, s_29_127, s_29_128, s_29_129, s_29_130, s_29_133, r_29_133, s_29_136, s_29_137, s_29_138, s_29_139, s_29_142, s_29_143, s_29_146, s_29_147, r_29_147, s_29_150, s_29_151, s_29_152, s_29_153, s_29_156, s_29_157, r_29_157, s_29_160, s_29_161, s_29_162, s_30_0, s_30_1, s_30_2, s_30_5, r_30_5, s_30_8, s_30_11, s_30_12, s_30_15, s_30_16, s_30_19, r_30_19, s_30_22, s_30_25, s_30_26, s_30_27, s_30_28, s_30_31, s_30_32, s_30_35, s_30_36, s_30_37, s_30_40, s_30_41, s_30_44, s_30_45, s_30_48, s_30_50, s_30_53, s_30_54, s_30_57, s_30_58, r_30_58, s_30_61, s_30_62, jI_mul, jI_add, jI_tnc, jI_ixT, true_and, and_true, bZ_0, bZ_1, bZ_b, jI_nz, jI_div, jI_rem, jI_mod, Nat.add_zero, bI_if, not_false_iff, if_true, if_false, eq_self, LX_od, t1, t2, t3, t4]
        refine (hs).mpr ?_
        simp (disch := first | assumption | omega) only [s_29_0, s_29_1, s_29_4_99, s_29_4_100, s_29_4_101, s_29_4_102, s_29_4_103, s_29_4_104, s_29_4_105, s_29_4_106, s_29_4_107, s_29_4_108, s_29_4_109, s_29_4_110, s_29_4_111, s_29_4_112, s_29_4_113, s_29_4_114, s_29_4_115, s_29_4_d, s_29_88, s_29_89, s_29_90, r_29_90, s_29_93, s_29_94, s_29_95, s_29_98, r_29_98, s_29_101, s_29_104, s_29_105, s_29_106, s_29_107, s_29_109, s_29_110, s_29_113, s_29_116, s_29_117, r_29_117, s_29_120, s_29_123, s_29_126, s_29_127, s_29_128, s_29_129, s_29_130, s_29_133, r_29_133, s_29_136, s_29_137, s_29_138, s_29_139, s_29_142, s_29_143, s_29_146, s_29_147, r_29_147, s_29_150, s_29_151, s_29_152, s_29_153, s_29_156, s_29_157, r_29_157, s_29_160, s_29_161, s_29_162, s_30_0, s_30_1, s_30_2, s_30_5, r_30_5, s_30_8, s_30_11, s_30_12, s_30_15, s_30_16, s_30_19, r_30_19, s_30_22, s_30_25, s_30_26, s_30_27, s_30_28, s_30_31, s_30_32, s_30_35, s_30_36, s_30_37, s_30_40, s_30_41, s_30_44, s_30_45, s_30_48, s_30_50, s_30_53, s_30_54, s_30_57, s_30_58, r_30_58, s_30_61, s_30_62, jI_mul, jI_add, jI_tnc, jI_ixT, true_and, and_true, bZ_0, bZ_1, bZ_b, jI_nz, jI_div, jI_rem, jI_mod, Nat.add_zero, bI_if, not_false_iff, if_true, if_false, eq_self]
        have := D (opN g x y true (m + 1), ohR oh x y true (m + 1), nc, h) (shN σ (ohA o x) y true (m + 1)) (by rw [if_pos (by omega), show y + m - y + 1 = m + 1 by omega]; rfl) (fun a ha => shN_o (by unfold ohA; omega) _) (OHc_setN q1 hng hO _ (by omega))
        rw [LD_opN hnc (by omega) (by omega)] at this
        exact this
      · rw [if_neg q2]
        try simp (disch := first | assumption | omega) only [s_29_0, s_29_1, s_29_4_99, s_29_4_100, s_29_4_101, s_29_4_102, s_29_4_103, s_29_4_104, s_29_4_105, s_29_4_106, s_29_4_107, s_29_4_108, s_29_4_109, s_29_4_110, s_29_4_111, s_29_4_112, s_29_4_113, s_29_4_114, s_29_4_115, s_29_4_d, s_29_88, s_29_89, s_29_90, r_29_90, s_29_93, s_29_94, s_29_95, s_29_98, r_29_98, s_29_101, s_29_104, s_29_105, s_29_106, s_29_107, s_29_109, s_29_110, s_29_113, s_29_116, s_29_117, r_29_117, s_29_120, s_29_123, s_29_126, s_29_127, s_29_128, s_29_129, s_29_130, s_29_133, r_29_133, s_29_136, s_29_137, s_29_138, s_29_139, s_29_142, s_29_143, s_29_146, s_29_147, r_29_147, s_29_150, s_29_151, s_29_152, s_29_153, s_29_156, s_29_157, r_29_157, s_29_160, s_29_161, s_29_162, s_30_0, s_30_1, s_30_2, s_30_5, r_30_5, s_30_8, s_30_11, s_30_12, s_30_15, s_30_16, s_30_19, r_30_19, s_30_22, s_30_25, s_30_26, s_30_27, s_30_28, s_30_31, s_30_32, s_30_35, s_30_36, s_30_37, s_30_40, s_30_41, s_30_44, s_30_45, s_30_48, s_30_50, s_30_53, s_30_54, s_30_57, s_30_58, r_30_58, s_30_61, s_30_62, jI_mul, jI_add, jI_tnc, jI_ixT, true_and, and_true, bZ_0, bZ_1, bZ_b, jI_nz, jI_div, jI_rem, jI_mod, Nat.add_zero, bI_if, not_false_iff, if_true, if_false, eq_self]
        exact W (if_neg (by omega))
    · rw [if_neg q1]
      try simp (disch := first | assumption | omega) only [s_29_0, s_29_1, s_29_4_99, s_29_4_100, s_29_4_101, s_29_4_102, s_29_4_103, s_29_4_104, s_29_4_105, s_29_4_106, s_29_4_107, s_29_4_108, s_29_4_109, s_29_4_110, s_29_4_111, s_29_4_112, s_29_4_113, s_29_4_114, s_29_4_115, s_29_4_d, s_29_88, s_29_89, s_29_90, r_29_90, s_29_93, s_29_94, s_29_95, s_29_98, r_29_98, s_29_101, s_29_104, s_29_105, s_29_106, s_29_107, s_29_109, s_29_110, s_29_113, s_29_116, s_29_117, r_29_117, s_29_120, s_29_123, s_29_126, s_29_127, s_29_128, s_29_129, s_29_130, s_29_133, r_29_133, s_29_136, s_29_137, s_29_138, s_29_139, s_29_142, s_29_143, s_29_146, s_29_147, r_29_147, s_29_150, s_29_151, s_29_152, s_29_153, s_29_156, s_29_157, r_29_157, s_29_160, s_29_161, s_29_162, s_30_0, s_30_1, s_30_2, s_30_5, r_30_5, s_30_8, s_30_11, s_30_12, s_30_15, s_30_16, s_30_19, r_30_19, s_30_22, s_30_25, s_30_26, s_30_27, s_30_28, s_30_31, s_30_32, s_30_35, s_30_36, s_30_37, s_30_40, s_30_41, s_30_44, s_30_45, s_30_48, s_30_50, s_30_53, s_30_54, s_30_57, s_30_58, r_30_58, s_30_61, s_30_62, jI_mul, jI_add, jI_tnc, jI_ixT, true_and, and_true, bZ_0, bZ_1, bZ_b, jI_nz, jI_div, jI_rem, jI_mod, Nat.add_zero, bI_if, not_false_iff, if_true, if_false, eq_self]
      exact W (if_neg (by omega))
  · rw [if_neg (by decide), if_neg (by decide), if_neg (by decide), if_neg (by decide)] at D W R
    simp (disch := first | assumption | omega) only [s_29_0, s_29_1, s_29_4_99, s_29_4_100, s_29_4_101, s_29_4_102, s_29_4_103, s_29_4_104, s_29_4_105, s_29_4_106, s_29_4_107, s_29_4_108, s_29_4_109, s_29_4_110, s_29_4_111, s_29_4_112, s_29_4_113, s_29_4_114, s_29_4_115, s_29_4_d, s_29_88, s_29_89, s_29_90, r_29_90, s_29_93, s_29_94, s_29_95, s_29_98, r_29_98, s_29_101, s_29_104, s_29_105, s_29_106, s_29_107, s_29_109, s_29_110, s_29_113, s_29_116, s_29_117, r_29_117, s_29_120, s_29_123, s_29_126, s_29_127, s_29_128, s_29_129, s_29_130, s_29_133, r_29_133, s_29_136, s_29_137, s_29_138, s_29_139, s_29_142, s_29_143, s_29_146, s_29_147, r_29_147, s_29_150, s_29_151, s_29_152, s_29_153, s_29_156, s_29_157, r_29_157, s_29_160, s_29_161, s_29_162, s_33_0, s_33_1, s_33_2, r_33_2, s_33_5, s_33_8, s_33_9, s_33_10, s_33_11, s_33_12, s_33_13, r_33_13, s_33_16, s_33_19, s_33_20, s_33_21, s_33_22, s_33_23, r_33_23, s_33_26, s_33_27, jI_mul, jI_add, jI_tnc, jI_ixT, true_and, and_true, bZ_0, bZ_1, bZ_b, jI_nz, jI_div, jI_rem, jI_mod, Nat.add_zero, bI_if, not_false_iff, if_true, if_false, eq_self, LX_od, t2, c_hasG, hs_jI]
    by_cases q1 : x < ng
    · rw [if_pos q1] at D W R ⊢
      try simp (disch := first | assumption | omega) only [s_29_0, s_29_1, s_29_4_99, s_29_4_100, s_29_4_101, s_29_4_102, s_29_4_103, s_29_4_104, s_29_4_105, s_29_4_106, s_29_4_107, s_29_4_108, s_29_4_109, s_29_4_110, s_29_4_111, s_29_4_112, s_29_4_113, s_29_4_114, s_29_4_115, s_29_4_d, s_29_88, s_29_89, s_29_90, r_29_90, s_29_93, s_29_94, s_29_95, s_29_98, r_29_98, s_29_101, s_29_104, s_29_105, s_29_106, s_29_107, s_29_109, s_29_110, s_29_113, s_29_116, s_29_117, r_29_117, s_29_120, s_29_123, s_29_126, s_29_127, s_29_128, s_29_129, s_29_130, s_29_133, r_29_133, s_29_136, s_29_137, s_29_138, s_29_139, s_29_142, s_29_143, s_29_146, s_29_147, r_29_147, s_29_150, s_29_151, s_29_152, s_29_153, s_29_156, s_29_157, r_29_157, s_29_160, s_29_161, s_29_162, s_33_0, s_33_1, s_33_2, r_33_2, s_33_5, s_33_8, s_33_9, s_33_10, s_33_11, s_33_12, s_33_13, r_33_13, s_33_16, s_33_19, s_33_20, s_33_21, s_33_22, s_33_23, r_33_23, s_33_26, s_33_27, jI_mul, jI_add, jI_tnc, jI_ixT, true_and, and_true, bZ_0, bZ_1, bZ_b, jI_nz, jI_div, jI_rem, jI_mod, Nat.add_zero, bI_if, not_false_iff, if_true, if_false, eq_self]
      refine c_refR ho hng hnd b6 hQ q1 (fun q3 => ?_) (fun q3 q4 => ?_) (fun q3 q4 q5 => ?_) (fun q3 q4 q5 => ?_)
      · simp (disch := first | assumption | omega) only [s_29_0, s_29_1, s_29_4_99, s_29_4_100, s_29_4_101, s_29_4_102, s_29_4_103, s_29_4_104, s_29_4_105, s_29_4_106, s_29_4_107, s_29_4_108, s_29_4_109, s_29_4_110, s_29_4_111, s_29_4_112, s_29_4_113, s_29_4_114, s_29_4_115, s_29_4_d, s_29_88, s_29_89, s_29_90, r_29_90, s_29_93, s_29_94, s_29_95, s_29_98, r_29_98, s_29_101, s_29_104, s_29_105, s_29_106, s_29_107, s_29_109, s_29_110, s_29_113, s_29_116, s_29_117, r_29_117, s_29_120, s_29_123, s_29_126, s_29_127, s_29_128, s_29_129, s_29_130, s_29_133, r_29_133, s_29_136, s_29_137, s_29_138, s_29_139, s_29_142, s_29_143, s_29_146, s_29_147, r_29_147, s_29_150, s_29_151, s_29_152, s_29_153, s_29_156, s_29_157, r_29_157, s_29_160, s_29_161, s_29_162, s_33_0, s_33_1, s_33_2, r_33_2, s_33_5, s_33_8, s_33_9, s_33_10, s_33_11, s_33_12, s_33_13, r_33_13, s_33_16, s_33_19, s_33_20, s_33_21, s_33_22, s_33_23, r_33_23, s_33_26, s_33_27, jI_mul, jI_add, jI_tnc, jI_ixT, true_and, and_true, bZ_0, bZ_1, bZ_b, jI_nz, jI_div, jI_rem, jI_mod, Nat.add_zero, bI_if, not_false_iff, if_true, if_false, eq_self, n1]
        exact R 3 _ (if_pos q3)
      · simp (disch := first | assumption | omega) only [s_29_0, s_29_1, s_29_4_99, s_29_4_100, s_29_4_101, s_29_4_102, s_29_4_103, s_29_4_104, s_29_4_105, s_29_4_106, s_29_4_107, s_29_4_108, s_29_4_109, s_29_4_110, s_29_4_111, s_29_4_112, s_29_4_113, s_29_4_114, s_29_4_115, s_29_4_d, s_29_88, s_29_89, s_29_90, r_29_90, s_29_93, s_29_94, s_29_95, s_29_98, r_29_98, s_29_101, s_29_104, s_29_105, s_29_106, s_29_107, s_29_109, s_29_110, s_29_113, s_29_116, s_29_117, r_29_117, s_29_120, s_29_123, s_29_126, s_29_127, s_29_128, s_29_129, s_29_130, s_29_133, r_29_133, s_29_136, s_29_137, s_29_138, s_29_139, s_29_142, s_29_143, s_29_146, s_29_147, r_29_147, s_29_150, s_29_151, s_29_152, s_29_153, s_29_156, s_29_157, r_29_157, s_29_160, s_29_161, s_29_162, s_33_0, s_33_1, s_33_2, r_33_2, s_33_5, s_33_8, s_33_9, s_33_10, s_33_11, s_33_12, s_33_13, r_33_13, s_33_16, s_33_19, s_33_20, s_33_21, s_33_22, s_33_23, r_33_23, s_33_26, s_33_27, jI_mul, jI_add, jI_tnc, jI_ixT, true_and, and_true, bZ_0, bZ_1, bZ_b, jI_nz, jI_div, jI_rem, jI_mod, Nat.add_zero, bI_if, not_false_iff, if_true, if_false, eq_self, n1]
        refine R 4 _ ?_
        rw [if_neg q3, if_pos q4]
      · simp (disch := first | assumption | omega) only [s_29_0, s_29_1, s_29_4_99, s_29_4_100, s_29_4_101, s_29_4_102, s_29_4_103, s_29_4_104, s_29_4_105, s_29_4_106, s_29_4_107, s_29_4_108, s_29_4_109, s_29_4_110, s_29_4_111, s_29_4_112, s_29_4_113, s_29_4_114, s_29_4_115, s_29_4_d, s_29_88, s_29_89, s_29_90, r_29_90, s_29_93, s_29_94, s_29_95, s_29_98, r_29_98, s_29_101, s_29_104, s_29_105, s_29_106, s_29_107, s_29_109, s_29_110, s_29_113, s_29_116, s_29_117, r_29_117, s_29_120, s_29_123, s_29_126, s_29_127, s_29_128, s_29_129, s_29_130, s_29_133, r_29_133, s_29_136, s_29_137, s_29_138, s_29_139, s_29_142, s_29_143, s_29_146, s_29_147, r_29_147, s_29_150, s_29_151, s_29_152, s_29_153, s_29_156, s_29_157, r_29_157, s_29_160, s_29_161, s_29_162, s_33_0, s_33_1, s_33_2, r_33_2, s_33_5, s_33_8, s_33_9, s_33_10, s_33_11, s_33_12, s_33_13, r_33_13, s_33_16, s_33_19, s_33_20, s_33_21, s_33_22, s_33_23, r_33_23, s_33_26, s_33_27, jI_mul, jI_add, jI_tnc, jI_ixT, true_and, and_true, bZ_0, bZ_1, bZ_b, jI_nz, jI_div, jI_rem, jI_mod, Nat.add_zero, bI_if, not_false_iff, if_true, if_false, eq_self, n1]
        refine R 5 _ ?_
        rw [if_neg q3, if_neg q4, if_pos q5]
      · simp (disch := first | assumption | omega) only [s_29_0, s_29_1, s_29_4_99, s_29_4_100, s_29_4_101, s_29_4_102, s_29_4_103, s_29_4_104, s_29_4_105, s_29_4_106, s_29_4_107, s_29_4_108, s_29_4_109, s_29_4_110, s_29_4_111, s_29_4_112, s_29_4_113, s_29_4_114, s_29_4_115, s_29_4_d, s_29_88, s_29_89, s_29_90, r_29_90, s_29_93, s_29_94, s_29_95, s_29_98, r_29_98, s_29_101, s_29_104, s_29_105, s_29_106, s_29_107, s_29_109, s_29_110, s_29_113, s_29_116, s_29_117, r_29_117, s_29_120, s_29_123, s_29_126, s_29_127, s_29_128, s_29_129, s_29_130, s_29_133, r_29_133, s_29_136, s_29_137, s_29_138, s_29_139, s_29_142, s_29_143, s_29_146, s_29_147, r_29_147, s_29_150, s_29_151, s_29_152, s_29_153, s_29_156, s_29_157, r_29_157, s_29_160, s_29_161, s_29_162, s_33_0, s_33_1, s_33_2, r_33_2, s_33_5, s_33_8, s_33_9, s_33_10, s_33_11, s_33_12, s_33_13, r_33_13, s_33_16, s_33_19, s_33_20, s_33_21, s_33_22, s_33_23, r_33_23, s_33_26, s_33_27, jI_mul, jI_add, jI_tnc, jI_ixT, true_and, and_true, bZ_0, bZ_1, bZ_b, jI_nz, jI_div, jI_rem, jI_mod, Nat.add_zero, bI_if, not_false_iff, if_true, if_false, eq_self]
        refine c_mend ho hng hnd b6 hQ q1 ?_
        simp (disch := first | assumption | omega) only [s_29_0, s_29_1, s_29_4_99, s_29_4_100, s_29_4_101, s_29_4_102, s_29_4_103, s_29_4_104, s_29_4_105, s_29_4_106, s_29_4_107, s_29_4_108, s_29_4_109, s_29_4_110, s_29_4_111, s_29_4_112, s_29_4_113, s_29_4_114, s_29_4_115, s_29_4_d, s_29_88, s_29_89, s_29_90, r_29_90, s_29_93, s_29_94, s_29_95, s_29_98, r_29_98, s_29_101, s_29_104, s_29_105, s_29_106, s_29_107, s_29_109, s_29_110, s_29_113, s_29_116, s_29_117, r_29_117, s_29_120, s_29_123, s_29_126, s_29_127, s_29_128, s_29_129, s_29_130, s_29_133, r_29_133, s_29_136, s_29_137, s_29_138, s_29_139, s_29_142, s_29_143, s_29_146, s_29_147, r_29_147, s_29_150, s_29_151, s_29_152, s_29_153, s_29_156, s_29_157, r_29_157, s_29_160, s_29_161, s_29_162, s_33_0, s_33_1, s_33_2, r_33_2, s_33_5, s_33_8, s_33_9, s_33_10, s_33_11, s_33_12, s_33_13, r_33_13, s_33_16, s_33_19, s_33_20, s_33_21, s_33_22, s_33_23, r_33_23, s_33_26, s_33_27, jI_mul, jI_add, jI_tnc, jI_ixT, true_and, and_true, bZ_0, bZ_1, bZ_b, jI_nz, jI_div, jI_rem, jI_mod, Nat.add_zero, bI_if, not_false_iff, if_true, if_false, eq_self]
        refine D (repS g nd x, oh, nc, h) σ ?_ (fun _ _ => rfl) hO
        rw [if_neg q3, if_neg q4, if_neg q5]
    · rw [if_neg q1] at W ⊢
      try simp (disch := first | assumption | omega) only [s_29_0, s_29_1, s_29_4_99, s_29_4_100, s_29_4_101, s_29_4_102, s_29_4_103, s_29_4_104, s_29_4_105, s_29_4_106, s_29_4_107, s_29_4_108, s_29_4_109, s_29_4_110, s_29_4_111, s_29_4_112, s_29_4_113, s_29_4_114, s_29_4_115, s_29_4_d, s_29_88, s_29_89, s_29_90, r_29_90, s_29_93, s_29_94, s_29_95, s_29_98, r_29_98, s_29_101, s_29_104, s_29_105, s_29_106, s_29_107, s_29_109, s_29_110, s_29_113, s_29_116, s_29_117, r_29_117, s_29_120, s_29_123, s_29_126, s_29_127, s_29_128, s_29_129, s_29_130, s_29_133, r_29_133, s_29_136, s_29_137, s_29_138, s_29_139, s_29_142, s_29_143, s_29_146, s_29_147, r_29_147, s_29_150, s_29_151, s_29_152, s_29_153, s_29_156, s_29_157, r_29_157, s_29_160, s_29_161, s_29_162, s_33_0, s_33_1, s_33_2, r_33_2, s_33_5, s_33_8, s_33_9, s_33_10, s_33_11, s_33_12, s_33_13, r_33_13, s_33_16, s_33_19, s_33_20, s_33_21, s_33_22, s_33_23, r_33_23, s_33_26, s_33_27, jI_mul, jI_add, jI_tnc, jI_ixT, true_and, and_true, bZ_0, bZ_1, bZ_b, jI_nz, jI_div, jI_rem, jI_mod, Nat.add_zero, bI_if, not_false_iff, if_true, if_false, eq_self]
      exact W rfl
  · have t3 := t3 (Or.inr (Or.inr rfl))
    have t4 := t4 (Or.inr rfl)
    have n115 : (jI 115 = jI 111) = False := by decide
    rw [if_pos (Or.inr rfl)] at D W R
    simp (disch := first | assumption | omega) only [s_29_0, s_29_1, s_29_4_99, s_29_4_100, s_29_4_101, s_29_4_102, s_29_4_103, s_29_4_104, s_29_4_105, s_29_4_106, s_29_4_107, s_29_4_108, s_29_4_109, s_29_4_110, s_29_4_111, s_29_4_112, s_29_4_113, s_29_4_114, s_29_4_115, s_29_4_d, s_29_88, s_29_89, s_29_90, r_29_90, s_29_93, s_29_94, s_29_95, s_29_98, r_29_98, s_29_101, s_29_104, s_29_105, s_29_106, s_29_107, s_29_109, s_29_110, s_29_113, s_29_116, s_29_117, r_29_117, s_29_120, s_29_123, s_29_126, s_29_127, s_29_128, s_29_129, s_29_130, s_29_133, r_29_133, s_29_136, s_29_137, s_29_138, s_29_139, s_29_142, s_29_143, s_29_146, s_29_147, r_29_147, s_29_150, s_29_151, s_29_152, s_29_153, s_29_156, s_29_157, r_29_157, s_29_160, s_29_161, s_29_162, s_30_0, s_30_1, s_30_2, s_30_5, r_30_5, s_30_8, s_30_11, s_30_12, s_30_15, s_30_16, s_30_19, r_30_19, s_30_22, s_30_25, s_30_26, s_30_27, s_30_28, s_30_31, s_30_32, s_30_35, s_30_36, s_30_37, s_30_40, s_30_41, s_30_44, s_30_45, s_30_48, s_30_50, s_30_53, s_30_54, s_30_57, s_30_58, r_30_58, s_30_61, s_30_62, jI_mul, jI_add, jI_tnc, jI_ixT, true_and, and_true, bZ_0, bZ_1, bZ_b, jI_nz, jI_div, jI_rem, jI_mod, Nat.add_zero, bI_if, not_false_iff, if_true, if_false, eq_self, LX_od, t1, t2, t3, t4, c_hasG, hs_jI, c_area, jI_lt, n115]
    by_cases q1 : x < ng
    · rw [if_pos q1]
      by_cases q2 : ¬ y < 0 ∧ ¬ z < y ∧ z < 168
      · rw [if_pos q2]
        obtain ⟨m, rfl⟩ : ∃ m, z = y + m := ⟨z - y, by omega⟩
        have hs := fun {K : Ou → Me → Prop} => c_setHours (K := K) (Ln := Ln) (σ := σ) (g := g) (lo := lo) (db := db) (nc := nc) (i := x) (a := y) (n := m) (p := false) ho hng hnd q1 q2.2.2
        try simp (disch := first | assumption | omega) only [s_29_0, s_29_1, s_29_4_99, s_29_4_100, s_29_4_101, s_29_4_102, s_29_4_103, s_29_4_104, s_29_4_105, s_29_4_106, s_29_4_107, s_29_4_108, s_29_4_109, s_29_4_110, s_29_4_111, s_29_4_112, s_29_4_113, s_29_4_114, s_29_4_115, s_29_4_d, s_29_88, s_29_89, s_29_90, r_29_90, s_29_93, s_29_94, s_29_95, s_29_98, r_29_98, s_29_101, s_29_104, s_29_105, s_29_106, s_29_107, s_29_109, s_29_110, s_29_113, s_29_116, s_29_117, r_29_117, s_29_120, s_29_123, s_29_126, s_29_127, s_29_128, s_29_129, s_29_130, s_29_133, r_29_133, s_29_136, s_29_137, s_29_138, s_29_139, s_29_142, s_29_143, s_29_146, s_29_147, r_29_147, s_29_150, s_29_151, s_29_152, s_29_153, s_29_156, s_29_157, r_29_157, s_29_160, s_29_161, s_29_162, s_30_0, s_30_1, s_30_2, s_30_5, r_30_5, s_30_8, s_30_11, s_30_12, s_30_15, s_30_16, s_30_19, r_30_19, s_30_22, s_30_25, s_30_26, s_30_27, s_30_28, s_30_31, s_30_32, s_30_35, s_30_36, s_30_37, s_30_40, s_30_41, s_30_44, s_30_45, s_30_48, s_30_50, s_30_53, s_30_54, s_30_57, s_30_58, r_30_58, s_30_61, s_30_62, jI_mul, jI_add, jI_tnc, jI_ixT, true_and, and_true, bZ_0, bZ_1, bZ_b, jI_nz, jI_div, jI_rem, jI_mod, Nat.add_zero, bI_if, not_false_iff, if_true, if_false, eq_self, LX_od, t1, t2, t3, t4, n115]
        refine (hs).mpr ?_
        simp (disch := first | assumption | omega) only [s_29_0, s_29_1, s_29_4_99, s_29_4_100, s_29_4_101, s_29_4_102, s_29_4_103, s_29_4_104, s_29_4_105, s_29_4_106, s_29_4_107, s_29_4_108, s_29_4_109, s_29_4_110, s_29_4_111, s_29_4_112, s_29_4_113, s_29_4_114, s_29_4_115, s_29_4_d, s_29_88, s_29_89, s_29_90, r_29_90, s_29_93, s_29_94, s_29_95, s_29_98, r_29_98, s_29_101, s_29_104, s_29_105, s_29_106, s_29_107, s_29_109, s_29_110, s_29_113, s_29_116, s_29_117, r_29_117, s_29_120, s_29_123, s_29_126, s_29_127, s_29_128, s_29_129, s_29_130, s_29_133, r_29_133, s_29_136, s_29_137, s_29_138, s_29_139, s_29_142, s_29_143, s_29_146, s_29_147, r_29_147, s_29_150, s_29_151, s_29_152, s_29_153, s_29_156, s_29_157, r_29_157, s_29_160, s_29_161, s_29_162, s_30_0, s_30_1, s_30_2, s_30_5, r_30_5, s_30_8, s_30_11, s_30_12, s_30_15, s_30_16, s_30_19, r_30_19, s_30_22, s_30_25, s_30_26, s_30_27, s_30_28, s_30_31, s_30_32, s_30_35, s_30_36, s_30_37, s_30_40, s_30_41, s_30_44, s_30_45, s_30_48, s_30_50, s_30_53, s_30_54, s_30_57, s_30_58, r_30_58, s_30_61, s_30_62, jI_mul, jI_add, jI_tnc, jI_ixT, true_and, and_true, bZ_0, bZ_1, bZ_b, jI_nz, jI_div, jI_rem, jI_mod, Nat.add_zero, bI_if, not_false_iff, if_true, if_false, eq_self]
        have := D (opN g x y false (m + 1), ohR oh x y false (m + 1), nc, h) (shN σ (ohA o x) y false (m + 1)) (by rw [if_pos (by omega), show y + m - y + 1 = m + 1 by omega]; rfl) (fun a ha => shN_o (by unfold ohA; omega) _) (OHc_setN q1 hng hO _ (by omega))
        rw [LD_opN hnc (by omega) (by omega)] at this
        exact this
      · rw [if_neg q2]
        try simp (disch := first | assumption | omega) only [s_29_0, s_29_1, s_29_4_99, s_29_4_100, s_29_4_101, s_29_4_102, s_29_4_103, s_29_4_104, s_29_4_105, s_29_4_106, s_29_4_107, s_29_4_108, s_29_4_109, s_29_4_110, s_29_4_111, s_29_4_112, s_29_4_113, s_29_4_114, s_29_4_115, s_29_4_d, s_29_88, s_29_89, s_29_90, r_29_90, s_29_93, s_29_94, s_29_95, s_29_98, r_29_98, s_29_101, s_29_104, s_29_105, s_29_106, s_29_107, s_29_109, s_29_110, s_29_113, s_29_116, s_29_117, r_29_117, s_29_120, s_29_123, s_29_126, s_29_127, s_29_128, s_29_129, s_29_130, s_29_133, r_29_133, s_29_136, s_29_137, s_29_138, s_29_139, s_29_142, s_29_143, s_29_146, s_29_147, r_29_147, s_29_150, s_29_151, s_29_152, s_29_153, s_29_156, s_29_157, r_29_157, s_29_160, s_29_161, s_29_162, s_30_0, s_30_1, s_30_2, s_30_5, r_30_5, s_30_8, s_30_11, s_30_12, s_30_15, s_30_16, s_30_19, r_30_19, s_30_22, s_30_25, s_30_26, s_30_27, s_30_28, s_30_31, s_30_32, s_30_35, s_30_36, s_30_37, s_30_40, s_30_41, s_30_44, s_30_45, s_30_48, s_30_50, s_30_53, s_30_54, s_30_57, s_30_58, r_30_58, s_30_61, s_30_62, jI_mul, jI_add, jI_tnc, jI_ixT, true_and, and_true, bZ_0, bZ_1, bZ_b, jI_nz, jI_div, jI_rem, jI_mod, Nat.add_zero, bI_if, not_false_iff, if_true, if_false, eq_self]
        exact W (if_neg (by omega))
    · rw [if_neg q1]
      try simp (disch := first | assumption | omega) only [s_29_0, s_29_1, s_29_4_99, s_29_4_100, s_29_4_101, s_29_4_102, s_29_4_103, s_29_4_104, s_29_4_105, s_29_4_106, s_29_4_107, s_29_4_108, s_29_4_109, s_29_4_110, s_29_4_111, s_29_4_112, s_29_4_113, s_29_4_114, s_29_4_115, s_29_4_d, s_29_88, s_29_89, s_29_90, r_29_90, s_29_93, s_29_94, s_29_95, s_29_98, r_29_98, s_29_101, s_29_104, s_29_105, s_29_106, s_29_107, s_29_109, s_29_110, s_29_113, s_29_116, s_29_117, r_29_117, s_29_120, s_29_123, s_29_126, s_29_127, s_29_128, s_29_129, s_29_130, s_29_133, r_29_133, s_29_136, s_29_137, s_29_138, s_29_139, s_29_142, s_29_143, s_29_146, s_29_147, r_29_147, s_29_150, s_29_151, s_29_152, s_29_153, s_29_156, s_29_157, r_29_157, s_29_160, s_29_161, s_29_162, s_30_0, s_30_1, s_30_2, s_30_5, r_30_5, s_30_8, s_30_11, s_30_12, s_30_15, s_30_16, s_30_19, r_30_19, s_30_22, s_30_25, s_30_26, s_30_27, s_30_28, s_30_31, s_30_32, s_30_35, s_30_36, s_30_37, s_30_40, s_30_41, s_30_44, s_30_45, s_30_48, s_30_50, s_30_53, s_30_54, s_30_57, s_30_58, r_30_58, s_30_61, s_30_62, jI_mul, jI_add, jI_tnc, jI_ixT, true_and, and_true, bZ_0, bZ_1, bZ_b, jI_nz, jI_div, jI_rem, jI_mod, Nat.add_zero, bI_if, not_false_iff, if_true, if_false, eq_self]
      exact W (if_neg (by omega))
end
