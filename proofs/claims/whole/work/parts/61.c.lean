/-! THE CLASS: water -/
set_option maxRecDepth 16384
section
variable {K : Ou → Me → Prop} {Ln : Nat} {σ : Nat → Nat → Int32} {g : Gr} {lo : Nat → Nat → Int64} {db : Nat → Nat → UInt64} {μ : Me} {oh : Nat → Nat → Bool} {o ng nd nc h : Nat}
theorem m_min {a b : Int32} : Ev 216 (0, [.int a, .int b], [], 0, 0, MM Ln σ lo db) K ↔ K (.inl (some (.int (mn a b)))) (MM Ln σ lo db) := by
  simp only [s_216_0, s_216_1, s_216_2, s_216_5, s_216_6, s_216_9, s_216_10, jI_mul, jI_add, jI_tnc, jI_ixT, true_and, and_true, bZ_0, bZ_1, bZ_b, jI_nz, jI_div, jI_rem, jI_mod, Nat.add_zero, bI_if, not_false_iff, if_true, if_false, eq_self]
  unfold mn
  by_cases h1 : b < a
  · rw [if_pos h1, if_neg (fun e => Int32.lt_irrefl (Int32.lt_trans h1 e))]
  · rw [if_neg h1]
    by_cases h2 : a < b
    · rw [if_pos h2]
    · rw [if_neg h2]
      have : a = b := by
        rw [Int32.lt_iff_toInt_lt] at h1 h2
        exact Int32.toInt_inj.mp (by omega)
      rw [this]
theorem jI_xor {a b : Nat} (ha : a < 2147483648) (hb : b < 2147483648) : (jI 0 ≤ jI a ^^^ jI b) = True := by
  apply eq_true
  have ma : (jI a).toBitVec.msb = false := by
    rw [BitVec.msb_eq_decide, decide_eq_false_iff_not]
    show ¬ 2 ^ (32 - 1) ≤ (BitVec.ofNat 32 a).toNat
    rw [BitVec.toNat_ofNat, Nat.mod_eq_of_lt (by omega)]
    omega
  have mb : (jI b).toBitVec.msb = false := by
    rw [BitVec.msb_eq_decide, decide_eq_false_iff_not]
    show ¬ 2 ^ (32 - 1) ≤ (BitVec.ofNat 32 b).toNat
    rw [BitVec.toNat_ofNat, Nat.mod_eq_of_lt (by omega)]
    omega
  have mx : (jI a ^^^ jI b).toBitVec.msb = false := by
    rw [Int32.toBitVec_xor, BitVec.msb_xor, ma, mb]; rfl
  rw [Int32.le_iff_toInt_le]
  have : (0 : Int) ≤ (jI a ^^^ jI b).toInt := by
    have := BitVec.toInt_nonneg_of_msb_false mx
    exact this
  rw [jI_toInt (by decide)]
  exact this
theorem m_floorMod {a b : Nat} (ha : a < 2147483648) (hb : 0 < b) (hb2 : b < 2147483648) : Ev 215 (0, [.int (jI a), .int (jI b), .null], [], 0, 0, MM Ln σ lo db) K ↔ K (.inl (some (.int (jI (a % b))))) (MM Ln σ lo db) := by
  simp (disch := omega) only [s_215_0, s_215_1, s_215_2, s_215_3, s_215_4, s_215_5, s_215_6, s_215_7, s_215_10, s_215_11, s_215_14, s_215_15, s_215_16, s_215_17, s_215_18, s_215_19, jI_mul, jI_add, jI_tnc, jI_ixT, true_and, and_true, bZ_0, bZ_1, bZ_b, jI_nz, jI_div, jI_rem, jI_mod, Nat.add_zero, bI_if, not_false_iff, if_true, if_false, eq_self, jI_xor]
theorem c_ahead {a b : Nat} (ho : DI o) (hng : ng ≤ 6) (hnd : nd ≤ 12) (ha : a < nd) (hb : b < nd) : Ev 19 (0, [.ref (nA o a), .ref (nA o b)], [], 0, 0, MM Ln (LD σ o g ng nd nc) lo db) K ↔ K (.inl (some (.int (bI (ahd g a b))))) (MM Ln (LD σ o g ng nd nc) lo db) := by
  simp (disch := first | assumption | omega) only [s_19_0, s_19_1, s_19_4, s_19_5, s_19_8, s_19_11, s_19_12, s_19_15, s_19_16, s_19_19, s_19_22, s_19_23, s_19_26, s_19_27, s_19_28, s_19_29, s_19_32, s_19_33, s_19_36, s_19_39, s_19_40, s_19_43, s_19_44, s_19_47, s_19_50, s_19_51, s_19_54, s_19_55, s_19_56, s_19_57, s_19_60, s_19_61, s_19_64, s_19_67, s_19_68, s_19_71, s_19_72, jI_mul, jI_add, jI_tnc, jI_ixT, true_and, and_true, bZ_0, bZ_1, bZ_b, jI_nz, jI_div, jI_rem, jI_mod, Nat.add_zero, bI_if, not_false_iff, if_true, if_false, eq_self, LD_s6, LD_s7, LD_s8, LD_s9, LD_s10, LD_s11, LD_s12, LD_b0, LD_b1, LD_b2, LD_b3, LD_b4, LD_b5, LD_b6, LD_b7, LD_g1, LD_g2, LD_g3, LD_g4, LD_n0, LD_n1, LD_n2, LD_n3, LD_n4, LD_n5, LD_n6, LD_n7, LD_n8, LD_cp, LD_ac, LD_or, LD_oh, jI_le, jI_lt]
  unfold bI
  simp only [ahd, ← Int32.not_lt, ← Nat.not_lt]
  by_cases h1 : g (75 + 9 * a + 4) = g (75 + 9 * b + 4)
  · simp only [h1, Int32.lt_irrefl, if_true, false_or, true_and]
    by_cases h2 : g (75 + 9 * a + 2) = g (75 + 9 * b + 2)
    · simp only [h2, Int32.lt_irrefl, if_true, false_or, true_and]
      by_cases h3 : a < b <;> simp only [h3, not_true, not_false_iff, if_true, if_false]
    · simp only [h2, if_false, false_and, or_false]
      by_cases h3 : g (75 + 9 * b + 2) < g (75 + 9 * a + 2) <;> simp only [h3, not_true, not_false_iff, if_true, if_false]
  · simp only [h1, if_false, false_and, or_false]
    by_cases h3 : g (75 + 9 * b + 4) < g (75 + 9 * a + 4) <;> simp only [h3, not_true, not_false_iff, if_true, if_false]
/-- what the order's row may change -/
def Fc (o : Nat) (σ σ' : Nat → Nat → Int32) : Prop := ∀ a, a ≠ orA o → σ' a = σ a
theorem Fc.refl : Fc o σ σ := fun _ _ => rfl
theorem Fc.trans {σ σ' σ'' : Nat → Nat → Int32} (h : Fc o σ σ') (h' : Fc o σ' σ'') : Fc o σ σ'' := fun a h1 => (h' a h1).trans (h a h1)
theorem Fc.row {j : Nat} {v : Int32} : Fc o σ (u2 σ (orA o) j v) := fun a h1 => by funext k; exact u2_na h1
theorem Fc.toOH {σ' : Nat → Nat → Int32} (f : Fc o σ σ') (hO : OHc σ o ng oh) : OHc σ' o ng oh := by
  intro i hi
  have e : σ' (ohA o i) = σ (ohA o i) := f _ (by unfold ohA orA; omega)
  rw [e]
  exact hO i hi
theorem c_ins {k c B : Nat} {gt : Int32} (ho : DI o) (hng : ng ≤ 6) (hnd : nd ≤ 12) (hk : k < nd) (hc : c < 12) (hB : B ≤ nd) : ∀ (p : Nat) (r : Nat → Nat) (σ : Nat → Nat → Int32), p ≤ c → (∀ j, j ≤ c → j ≠ p → σ (orA o) j = jI (nA o (r j)) ∧ r j < B) →
    (∀ σ', Fc o σ σ' → (insL g k r p).2 ≤ c → (∀ j, j ≤ c → j ≠ (insL g k r p).2 → σ' (orA o) j = jI (nA o ((insL g k r p).1 j)) ∧ (insL g k r p).1 j < B) → Ev 17 (76, [.ref o, .int gt, .int (jI c), .int (jI k), .ref (nA o k), .int (jI (insL g k r p).2)], [], 0, 0, MM Ln (LD σ' o g ng nd nc) lo db) K) →
    Ev 17 (32, [.ref o, .int gt, .int (jI c), .int (jI k), .ref (nA o k), .int (jI p)], [], 0, 0, MM Ln (LD σ o g ng nd nc) lo db) K
  | 0, r, σ, hp, hr, H => by
    simp (disch := omega) only [s_17_32, s_17_34, jI_le, Nat.le_refl, if_true]
    exact H σ Fc.refl (by simp only [insL]; omega) (by simpa only [insL] using hr)
  | p + 1, r, σ, hp, hr, H => by
    have hrp := hr p (by omega) (by omega)
    have hrp1 := hrp.1
    have hrp2 := hrp.2
    have hca : ∀ {K : Ou → Me → Prop}, Ev 19 (0, [.ref (nA o k), .ref (nA o (r p))], [], 0, 0, MM Ln (LD σ o g ng nd nc) lo db) K ↔ K (.inl (some (.int (bI (ahd g k (r p)))))) (MM Ln (LD σ o g ng nd nc) lo db) := c_ahead ho hng hnd hk (by omega)
    have hq : (jI (nA o (r p))).toNatClampNeg = nA o (r p) := jI_nA ho (by omega)
    rw [s_17_32]
    simp (disch := first | assumption | omega) only [s_17_0, s_17_1, s_17_2, s_17_3, s_17_5, s_17_6, s_17_9, s_17_12, s_17_13, s_17_16, s_17_17, s_17_18, s_17_20, s_17_22, s_17_25, s_17_26, s_17_29, s_17_30, s_17_34, s_17_37, s_17_39, s_17_40, s_17_43, s_17_45, s_17_46, s_17_47, s_17_48, r_17_48, s_17_51, s_17_54, s_17_55, s_17_58, s_17_60, s_17_61, s_17_64, s_17_66, s_17_67, s_17_68, s_17_69, s_17_70, s_17_73, s_17_77, s_17_80, s_17_82, s_17_84, s_17_85, s_17_88, s_17_91, s_17_94, s_17_95, jI_mul, jI_add, jI_tnc, jI_ixT, true_and, and_true, bZ_0, bZ_1, bZ_b, jI_nz, jI_div, jI_rem, jI_mod, Nat.add_zero, bI_if, not_false_iff, if_true, if_false, eq_self, jI_le, jI_sub, LD_or, Nat.add_sub_cancel, hrp1, hq, hca, LD_uor]
    rw [if_neg (by omega)]
    by_cases ha : ahd g k (r p)
    · rw [if_pos ha, show jI (p + 1) + jm1 = jI p from by rw [jI_m1 (by omega)]; rfl]
      have e : insL g k r (p + 1) = insL g k (fun j => if j = p + 1 then r p else r j) p := by rw [insL, if_pos ha]
      rw [e] at H
      refine c_ins ho hng hnd hk hc hB p (fun j => if j = p + 1 then r p else r j) _ (by omega) ?_ ?_
      rotate_left
      · intro σ' h1
        exact H σ' (Fc.row.trans h1)
      intro j hj hne
      by_cases hj1 : j = p + 1
      · subst hj1
        rw [u2_at, if_pos rfl]
        exact ⟨rfl, hrp2⟩
      · rw [u2_nk hj1, if_neg hj1]
        exact hr j hj hj1
    · rw [if_neg ha]
      have e : insL g k r (p + 1) = (r, p + 1) := by rw [insL, if_neg ha]
      rw [e] at H
      exact H σ Fc.refl hp hr
def ROWc (σ : Nat → Nat → Int32) (o n : Nat) (z : (Nat → Nat) × Nat) : Prop := z.2 ≤ n ∧ ∀ j, j < z.2 → σ (orA o) j = jI (nA o (z.1 j)) ∧ z.1 j < n
theorem c_orders {gt : Int32} (ho : DI o) (hng : ng ≤ 6) (hnd : nd ≤ 12) (h4 : g 4 = jI nd) (H : ∀ σ', Fc o σ σ' → ROWc σ' o nd (ordS g gt nd) → K (.inl (some (.int (jI (ordS g gt nd).2)))) (MM Ln (LD σ' o g ng nd nc) lo db)) :
    Ev 17 (0, [.ref o, .int gt, .null, .null, .null, .null], [], 0, 0, MM Ln (LD σ o g ng nd nc) lo db) K := by
  simp (disch := first | assumption | omega) only [s_17_0, s_17_1, s_17_2, s_17_3, s_17_5, s_17_6, s_17_9, s_17_12, s_17_13, s_17_16, s_17_17, s_17_18, s_17_20, s_17_22, s_17_25, s_17_26, s_17_29, s_17_30, s_17_32, s_17_34, s_17_37, s_17_39, s_17_40, s_17_43, s_17_45, s_17_46, s_17_47, s_17_48, r_17_48, s_17_51, s_17_54, s_17_55, s_17_58, s_17_60, s_17_61, s_17_64, s_17_66, s_17_67, s_17_68, s_17_69, s_17_70, s_17_73, s_17_76, s_17_77, s_17_80, s_17_82, s_17_84, s_17_85, s_17_88, s_17_91, s_17_94, s_17_95, jI_mul, jI_add, jI_tnc, jI_ixT, true_and, and_true, bZ_0, bZ_1, bZ_b, jI_nz, jI_div, jI_rem, jI_mod, Nat.add_zero, bI_if, not_false_iff, if_true, if_false, eq_self]
  refine lup0 nd (fun i x => ∃ σ' st s5, x = (4, [.ref o, .int gt, .int (jI (ordS g gt i).2), .int (jI i), st, s5], [], 0, 0, MM Ln (LD σ' o g ng nd nc) lo db) ∧ Fc o σ σ' ∧ ROWc σ' o i (ordS g gt i)) ⟨_, _, _, rfl, Fc.refl, Nat.le_refl 0, fun j hj => absurd hj (Nat.not_lt_zero j)⟩ ?_ ?_
  · rintro i x hi ⟨σ', st, s5, rfl, h1, h3, h5⟩ hn
    rw [s_17_4]
    simp (disch := first | assumption | omega) only [s_17_0, s_17_1, s_17_2, s_17_3, s_17_5, s_17_6, s_17_9, s_17_12, s_17_13, s_17_16, s_17_17, s_17_18, s_17_20, s_17_22, s_17_25, s_17_26, s_17_29, s_17_30, s_17_34, s_17_37, s_17_39, s_17_40, s_17_43, s_17_45, s_17_46, s_17_47, s_17_48, r_17_48, s_17_51, s_17_54, s_17_55, s_17_58, s_17_60, s_17_61, s_17_64, s_17_66, s_17_67, s_17_68, s_17_69, s_17_70, s_17_73, s_17_77, s_17_80, s_17_82, s_17_84, s_17_85, s_17_88, s_17_91, s_17_94, s_17_95, jI_mul, jI_add, jI_tnc, jI_ixT, true_and, and_true, bZ_0, bZ_1, bZ_b, jI_nz, jI_div, jI_rem, jI_mod, Nat.add_zero, bI_if, not_false_iff, if_true, if_false, eq_self, LD_s6, LD_s7, LD_s8, LD_s9, LD_s10, LD_s11, LD_s12, LD_b0, LD_b1, LD_b2, LD_b3, LD_b4, LD_b5, LD_b6, LD_b7, LD_g1, LD_g2, LD_g3, LD_g4, LD_n0, LD_n1, LD_n2, LD_n3, LD_n4, LD_n5, LD_n6, LD_n7, LD_n8, LD_cp, LD_ac, LD_or, LD_oh, h4, jI_le]
    rw [if_neg (by omega)]
    have e : ordS g gt (i + 1) = if g (75 + 9 * i) = gt then insR g i (ordS g gt i) else ordS g gt i := rfl
    by_cases hg : g (75 + 9 * i) = gt
    · rw [if_pos hg]
      rw [if_pos hg] at e
      refine c_ins (B := i) ho hng hnd hi (c := (ordS g gt i).2) (by omega) (by omega) _ (ordS g gt i).1 σ' (Nat.le_refl _) (fun j hj hne => ⟨(h5 j (by omega)).1, (h5 j (by omega)).2⟩) ?_
      intro σ'' f1 f3 f4
      simp (disch := first | assumption | omega) only [s_17_0, s_17_1, s_17_2, s_17_3, s_17_5, s_17_6, s_17_9, s_17_12, s_17_13, s_17_16, s_17_17, s_17_18, s_17_20, s_17_22, s_17_25, s_17_26, s_17_29, s_17_30, s_17_34, s_17_37, s_17_39, s_17_40, s_17_43, s_17_45, s_17_46, s_17_47, s_17_48, r_17_48, s_17_51, s_17_54, s_17_55, s_17_58, s_17_60, s_17_61, s_17_64, s_17_66, s_17_67, s_17_68, s_17_69, s_17_70, s_17_73, s_17_76, s_17_77, s_17_80, s_17_82, s_17_84, s_17_85, s_17_88, s_17_91, s_17_94, s_17_95, jI_mul, jI_add, jI_tnc, jI_ixT, true_and, and_true, bZ_0, bZ_1, bZ_b, jI_nz, jI_div, jI_rem, jI_mod, Nat.add_zero, bI_if, not_false_iff, if_true, if_false, eq_self, LD_uor]
      rw [e] at hn
      refine hn _ ⟨_, _, _, rfl, h1.trans (f1.trans Fc.row), ?_, ?_⟩
      · show (ordS g gt i).2 + 1 ≤ i + 1
        omega
      · intro j hj
        have hj : j < (ordS g gt i).2 + 1 := hj
        show u2 _ (orA o) _ _ (orA o) j = jI (nA o (if j = (insL g i (ordS g gt i).1 (ordS g gt i).2).2 then i else (insL g i (ordS g gt i).1 (ordS g gt i).2).1 j)) ∧ (if j = (insL g i (ordS g gt i).1 (ordS g gt i).2).2 then i else (insL g i (ordS g gt i).1 (ordS g gt i).2).1 j) < i + 1
        by_cases hj2 : j = (insL g i (ordS g gt i).1 (ordS g gt i).2).2
        · rw [if_pos hj2, hj2, u2_at]
          exact ⟨rfl, by omega⟩
        · rw [if_neg hj2, u2_nk hj2]
          have := f4 j (by omega) hj2
          exact ⟨this.1, by omega⟩
    · rw [if_neg hg]
      rw [if_neg hg] at e
      rw [e] at hn
      exact hn _ ⟨_, _, _, rfl, h1, by omega, fun j hj => ⟨(h5 j hj).1, by have := (h5 j hj).2; omega⟩⟩
  · rintro x ⟨σ', st, s5, rfl, h1, h2⟩
    rw [s_17_4]
    simp (disch := first | assumption | omega) only [s_17_0, s_17_1, s_17_2, s_17_3, s_17_5, s_17_6, s_17_9, s_17_12, s_17_13, s_17_16, s_17_17, s_17_18, s_17_20, s_17_22, s_17_25, s_17_26, s_17_29, s_17_30, s_17_34, s_17_37, s_17_39, s_17_40, s_17_43, s_17_45, s_17_46, s_17_47, s_17_48, r_17_48, s_17_51, s_17_54, s_17_55, s_17_58, s_17_60, s_17_61, s_17_64, s_17_66, s_17_67, s_17_68, s_17_69, s_17_70, s_17_73, s_17_77, s_17_80, s_17_82, s_17_84, s_17_85, s_17_88, s_17_91, s_17_94, s_17_95, jI_mul, jI_add, jI_tnc, jI_ixT, true_and, and_true, bZ_0, bZ_1, bZ_b, jI_nz, jI_div, jI_rem, jI_mod, Nat.add_zero, bI_if, not_false_iff, if_true, if_false, eq_self, LD_s6, LD_s7, LD_s8, LD_s9, LD_s10, LD_s11, LD_s12, LD_b0, LD_b1, LD_b2, LD_b3, LD_b4, LD_b5, LD_b6, LD_b7, LD_g1, LD_g2, LD_g3, LD_g4, LD_n0, LD_n1, LD_n2, LD_n3, LD_n4, LD_n5, LD_n6, LD_n7, LD_n8, LD_cp, LD_ac, LD_or, LD_oh, h4, jI_le, Nat.le_refl]
    exact H σ' h1 h2
theorem c_drink {i : Nat} {w : Int32} (ho : DI o) (hng : ng ≤ 6) (hnd : nd ≤ 12) (hi : i < nd) : Ev 44 (0, [.ref (nA o i), .int w, .null], [], 0, 0, MM Ln (LD σ o g ng nd nc) lo db) K ↔ K (.inl (some (.int (drS g i w)))) (MM Ln (LD σ o (gu g (75 + 9 * i + 4) (g (75 + 9 * i + 4) - drS g i w)) ng nd nc) lo db) := by
  have e : mn (mn (jI 3 * g (75 + 9 * i + 1)) (g (75 + 9 * i + 4))) w = drS g i w := mn_comm _ _
  simp (disch := first | assumption | omega) only [s_44_0, s_44_1, s_44_2, s_44_5, s_44_6, s_44_7, s_44_10, r_44_10, s_44_13, s_44_14, r_44_14, s_44_17, s_44_18, s_44_19, s_44_20, s_44_23, s_44_24, s_44_25, s_44_28, s_44_29, jI_mul, jI_add, jI_tnc, jI_ixT, true_and, and_true, bZ_0, bZ_1, bZ_b, jI_nz, jI_div, jI_rem, jI_mod, Nat.add_zero, bI_if, not_false_iff, if_true, if_false, eq_self, LD_s6, LD_s7, LD_s8, LD_s9, LD_s10, LD_s11, LD_s12, LD_b0, LD_b1, LD_b2, LD_b3, LD_b4, LD_b5, LD_b6, LD_b7, LD_g1, LD_g2, LD_g3, LD_g4, LD_n0, LD_n1, LD_n2, LD_n3, LD_n4, LD_n5, LD_n6, LD_n7, LD_n8, LD_cp, LD_ac, LD_or, LD_oh, LD_us6, LD_us7, LD_us8, LD_us9, LD_us10, LD_us11, LD_us12, LD_ub0, LD_ub1, LD_ub2, LD_ub3, LD_ub4, LD_ub5, LD_ub6, LD_ub7, LD_ug1, LD_ug2, LD_ug3, LD_ug4, LD_un0, LD_un1, LD_un2, LD_un3, LD_un4, LD_un5, LD_un6, LD_un7, LD_un8, LD_uor, LD_uoh, m_min, e]
theorem c_waterN {gt nd : Nat} {w : Int32} (ho : DI o) (hng : ng ≤ 6) (hg : gt < 6) (hnd : nd ≤ 12) (h4 : g 4 = jI nd) (H : ∀ σ', Fc o σ σ' → K (.inl (some (.int (itN (ordS g (jI gt) nd).2 (watStep (ordS g (jI gt) nd).1) (g, w)).2))) (MM Ln (LD σ' o (itN (ordS g (jI gt) nd).2 (watStep (ordS g (jI gt) nd).1) (g, w)).1 ng nd nc) lo db)) :
    Ev 15 (0, [.ref o, .int (jI gt), .int w, .null, .null, .null, .null, .null], [], 0, 0, MM Ln (LD σ o g ng nd nc) lo db) K := by
  simp (disch := first | assumption | omega) only [s_15_0, s_15_1, s_15_2, s_15_3, s_15_4, r_15_4, s_15_7, s_15_9, s_15_10, s_15_14, s_15_16, s_15_19, s_15_20, s_15_23, s_15_25, s_15_26, s_15_28, s_15_30, s_15_31, r_15_31, s_15_34, s_15_36, s_15_38, s_15_39, s_15_42, s_15_44, s_15_45, s_15_48, s_15_49, s_15_52, s_15_53, s_15_56, s_15_58, s_15_59, s_15_62, s_15_63, s_15_65, s_15_66, s_15_67, s_15_70, s_15_73, s_15_74, jI_mul, jI_add, jI_tnc, jI_ixT, true_and, and_true, bZ_0, bZ_1, bZ_b, jI_nz, jI_div, jI_rem, jI_mod, Nat.add_zero, bI_if, not_false_iff, if_true, if_false, eq_self]
  refine c_orders ho hng hnd h4 ?_
  rintro σ' f1 ⟨r2, r3⟩
  simp (disch := first | assumption | omega) only [s_15_0, s_15_1, s_15_2, s_15_3, s_15_4, r_15_4, s_15_7, s_15_9, s_15_10, s_15_14, s_15_16, s_15_19, s_15_20, s_15_23, s_15_25, s_15_26, s_15_28, s_15_30, s_15_31, r_15_31, s_15_34, s_15_36, s_15_38, s_15_39, s_15_42, s_15_44, s_15_45, s_15_48, s_15_49, s_15_52, s_15_53, s_15_56, s_15_58, s_15_59, s_15_62, s_15_63, s_15_65, s_15_66, s_15_67, s_15_70, s_15_73, s_15_74, jI_mul, jI_add, jI_tnc, jI_ixT, true_and, and_true, bZ_0, bZ_1, bZ_b, jI_nz, jI_div, jI_rem, jI_mod, Nat.add_zero, bI_if, not_false_iff, if_true, if_false, eq_self]
  refine lup0 (ordS g (jI gt) nd).2 (fun i x => ∃ s1 s2, x = (12, [.ref o, .int (jI gt), .int w, .int (itN i (watStep (ordS g (jI gt) nd).1) (g, w)).2, .int (jI (ordS g (jI gt) nd).2), .int (jI i), s1, s2], [], 0, 0, MM Ln (LD σ' o (itN i (watStep (ordS g (jI gt) nd).1) (g, w)).1 ng nd nc) lo db)) ⟨_, _, rfl⟩ ?_ ?_
  · rintro i x hi ⟨s1, s2, rfl⟩ hn
    have hr1 := (r3 i hi).1
    have hr2 := (r3 i hi).2
    have hq := jI_nA ho (show (ordS g (jI gt) nd).1 i < 12 by omega)
    rw [s_15_12]
    simp (disch := first | assumption | omega) only [s_15_0, s_15_1, s_15_2, s_15_3, s_15_4, r_15_4, s_15_7, s_15_9, s_15_10, s_15_14, s_15_16, s_15_19, s_15_20, s_15_23, s_15_25, s_15_26, s_15_28, s_15_30, s_15_31, r_15_31, s_15_34, s_15_36, s_15_38, s_15_39, s_15_42, s_15_44, s_15_45, s_15_48, s_15_49, s_15_52, s_15_53, s_15_56, s_15_58, s_15_59, s_15_62, s_15_63, s_15_65, s_15_66, s_15_67, s_15_70, s_15_73, s_15_74, jI_mul, jI_add, jI_tnc, jI_ixT, true_and, and_true, bZ_0, bZ_1, bZ_b, jI_nz, jI_div, jI_rem, jI_mod, Nat.add_zero, bI_if, not_false_iff, if_true, if_false, eq_self, LD_or, hr1, hq, jI_le]
    rw [if_neg (by omega)]
    simp (disch := first | assumption | omega) only [c_drink, s_15_0, s_15_1, s_15_2, s_15_3, s_15_4, r_15_4, s_15_7, s_15_9, s_15_10, s_15_14, s_15_16, s_15_19, s_15_20, s_15_23, s_15_25, s_15_26, s_15_28, s_15_30, s_15_31, r_15_31, s_15_34, s_15_36, s_15_38, s_15_39, s_15_42, s_15_44, s_15_45, s_15_48, s_15_49, s_15_52, s_15_53, s_15_56, s_15_58, s_15_59, s_15_62, s_15_63, s_15_65, s_15_66, s_15_67, s_15_70, s_15_73, s_15_74, jI_mul, jI_add, jI_tnc, jI_ixT, true_and, and_true, bZ_0, bZ_1, bZ_b, jI_nz, jI_div, jI_rem, jI_mod, Nat.add_zero, bI_if, not_false_iff, if_true, if_false, eq_self, LD_s6, LD_s7, LD_s8, LD_s9, LD_s10, LD_s11, LD_s12, LD_b0, LD_b1, LD_b2, LD_b3, LD_b4, LD_b5, LD_b6, LD_b7, LD_g1, LD_g2, LD_g3, LD_g4, LD_n0, LD_n1, LD_n2, LD_n3, LD_n4, LD_n5, LD_n6, LD_n7, LD_n8, LD_cp, LD_ac, LD_or, LD_oh, LD_us6, LD_us7, LD_us8, LD_us9, LD_us10, LD_us11, LD_us12, LD_ub0, LD_ub1, LD_ub2, LD_ub3, LD_ub4, LD_ub5, LD_ub6, LD_ub7, LD_ug1, LD_ug2, LD_ug3, LD_ug4, LD_un0, LD_un1, LD_un2, LD_un3, LD_un4, LD_un5, LD_un6, LD_un7, LD_un8, LD_uor, LD_uoh]
    exact hn _ ⟨_, _, rfl⟩
  · rintro x ⟨s1, s2, rfl⟩
    rw [s_15_12]
    simp (disch := first | assumption | omega) only [s_15_0, s_15_1, s_15_2, s_15_3, s_15_4, r_15_4, s_15_7, s_15_9, s_15_10, s_15_14, s_15_16, s_15_19, s_15_20, s_15_23, s_15_25, s_15_26, s_15_28, s_15_30, s_15_31, r_15_31, s_15_34, s_15_36, s_15_38, s_15_39, s_15_42, s_15_44, s_15_45, s_15_48, s_15_49, s_15_52, s_15_53, s_15_56, s_15_58, s_15_59, s_15_62, s_15_63, s_15_65, s_15_66, s_15_67, s_15_70, s_15_73, s_15_74, jI_mul, jI_add, jI_tnc, jI_ixT, true_and, and_true, bZ_0, bZ_1, bZ_b, jI_nz, jI_div, jI_rem, jI_mod, Nat.add_zero, bI_if, not_false_iff, if_true, if_false, eq_self, jI_le, Nat.le_refl]
    exact H σ' f1
end
