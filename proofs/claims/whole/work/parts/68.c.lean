/-! THE CLASS: complaints, repairs, counts -/
set_option maxRecDepth 16384
section
variable {K : Ou → Me → Prop} {Ln : Nat} {σ : Nat → Nat → Int32} {g g1 : Gr} {lo : Nat → Nat → Int64} {db : Nat → Nat → UInt64} {μ : Me} {oh : Nat → Nat → Bool} {o ng nd nc h i : Nat}
theorem c_countAhead {k : Nat} (ho : DI o) (hng : ng ≤ 6) (hnd : nd ≤ 12) (h4 : g 4 = jI nd) (hk : k < nd) : Ev 18 (0, [.ref o, .ref (nA o k), .null, .null], [], 0, 0, MM Ln (LD σ o g ng nd nc) lo db) K ↔ K (.inl (some (.int (jI (cntS (fun i => decide (g (75 + 9 * i) = g (75 + 9 * k) ∧ ahd g i k)) nd))))) (MM Ln (LD σ o g ng nd nc) lo db) := by
  have step : ∀ i, i ≤ nd → (Ev 18 (0, [.ref o, .ref (nA o k), .null, .null], [], 0, 0, MM Ln (LD σ o g ng nd nc) lo db) K ↔ Ev 18 (4, [.ref o, .ref (nA o k), .int (jI (cntS (fun i => decide (g (75 + 9 * i) = g (75 + 9 * k) ∧ ahd g i k)) i)), .int (jI i)], [], 0, 0, MM Ln (LD σ o g ng nd nc) lo db) K) := by
    intro i
    induction i with
    | zero => intro _; simp only [s_18_0, s_18_1, s_18_2, s_18_3, s_18_5, s_18_6, s_18_9, s_18_12, s_18_13, s_18_16, s_18_17, s_18_18, s_18_21, s_18_22, s_18_25, s_18_28, s_18_29, s_18_32, s_18_33, s_18_34, s_18_35, r_18_35, s_18_38, s_18_41, s_18_44, s_18_47, s_18_50, s_18_51]; rfl
    | succ i ih =>
      intro hi
      rw [ih (by omega), s_18_4, cntS_s]
      simp (disch := first | assumption | omega) only [s_18_0, s_18_1, s_18_2, s_18_3, s_18_5, s_18_6, s_18_9, s_18_12, s_18_13, s_18_16, s_18_17, s_18_18, s_18_21, s_18_22, s_18_25, s_18_28, s_18_29, s_18_32, s_18_33, s_18_34, s_18_35, r_18_35, s_18_38, s_18_41, s_18_44, s_18_47, s_18_50, s_18_51, jI_mul, jI_add, jI_tnc, jI_ixT, true_and, and_true, bZ_0, bZ_1, bZ_b, jI_nz, jI_div, jI_rem, jI_mod, Nat.add_zero, bI_if, not_false_iff, if_true, if_false, eq_self, LD_s6, LD_s7, LD_s8, LD_s9, LD_s10, LD_s11, LD_s12, LD_b0, LD_b1, LD_b2, LD_b3, LD_b4, LD_b5, LD_b6, LD_b7, LD_g1, LD_g2, LD_g3, LD_g4, LD_n0, LD_n1, LD_n2, LD_n3, LD_n4, LD_n5, LD_n6, LD_n7, LD_n8, LD_cp, LD_ac, LD_or, LD_oh, h4, jI_le, c_ahead]
      rw [if_neg (by omega)]
      by_cases q1 : g (75 + 9 * i) = g (75 + 9 * k)
      · by_cases q2 : ahd g i k
        · rw [if_pos q1, if_pos q2, if_pos (decide_eq_true ⟨q1, q2⟩)]
        · rw [if_pos q1, if_neg q2, if_neg (fun e => q2 (of_decide_eq_true e).2)]
      · rw [if_neg q1, if_neg (fun e => q1 (of_decide_eq_true e).1)]
  rw [step nd (Nat.le_refl _), s_18_4]
  simp (disch := first | assumption | omega) only [s_18_0, s_18_1, s_18_2, s_18_3, s_18_5, s_18_6, s_18_9, s_18_12, s_18_13, s_18_16, s_18_17, s_18_18, s_18_21, s_18_22, s_18_25, s_18_28, s_18_29, s_18_32, s_18_33, s_18_34, s_18_35, r_18_35, s_18_38, s_18_41, s_18_44, s_18_47, s_18_50, s_18_51, jI_mul, jI_add, jI_tnc, jI_ixT, true_and, and_true, bZ_0, bZ_1, bZ_b, jI_nz, jI_div, jI_rem, jI_mod, Nat.add_zero, bI_if, not_false_iff, if_true, if_false, eq_self, LD_s6, LD_s7, LD_s8, LD_s9, LD_s10, LD_s11, LD_s12, LD_b0, LD_b1, LD_b2, LD_b3, LD_b4, LD_b5, LD_b6, LD_b7, LD_g1, LD_g2, LD_g3, LD_g4, LD_n0, LD_n1, LD_n2, LD_n3, LD_n4, LD_n5, LD_n6, LD_n7, LD_n8, LD_cp, LD_ac, LD_or, LD_oh, h4, jI_le, Nat.le_refl, if_true]
theorem m_note {a b : Int32} : Ev 62 (0, [.ref 367, .int a, .int b], [], 0, 0, MM Ln σ lo db) K ↔ K (.inl (some (.int (jI 1)))) (MM Ln (u2 (u2 σ 367 0 a) 367 1 b) lo db) := by
  simp (disch := first | assumption | omega) only [s_62_0, s_62_1, s_62_2, s_62_5, s_62_6, s_62_7, s_62_10, s_62_11, jI_mul, jI_add, jI_tnc, jI_ixT, true_and, and_true, bZ_0, bZ_1, bZ_b, jI_nz, jI_div, jI_rem, jI_mod, Nat.add_zero, bI_if, not_false_iff, if_true, if_false, eq_self]
theorem DI_out (ho : DI o) : 367 < o ∨ o + 31 ≤ 367 := by
  unfold DI kD at ho
  rcases ho with rfl | rfl | rfl | ⟨i, hi, rfl⟩ <;> omega
theorem LD_urf {k : Nat} {v : Int32} (ho : DI o) (hng : ng ≤ 6) (hnd : nd ≤ 12) : u2 (LD σ o g ng nd nc) 367 k v = LD (u2 σ 367 k v) o g ng nd nc := LD_uout hng hnd (DI_out ho)
/-- the memory behind a refusal -/
def NT (σ : Nat → Nat → Int32) (a : Nat) (b : Int32) : Nat → Nat → Int32 := u2 (u2 σ 367 0 (jI a)) 367 1 b
theorem c_refC {v w : Int32} (ho : DI o) (hng : ng ≤ 6) (hnd : nd ≤ 12) (hnc : nc ≤ 8) (h5 : g 5 = jI nc)
    (F3 : ∀ i, i < nc → g (183 + 2 * i) = v → g (184 + 2 * i) = w → (∀ j, j < i → ¬ (g (183 + 2 * j) = v ∧ g (184 + 2 * j) = w)) → K (.inl (some (.int (jI 1)))) (MM Ln (LD (NT σ 2 (jI i)) o g ng nd nc) lo db))
    (F4 : (∀ j, j < nc → ¬ (g (183 + 2 * j) = v ∧ g (184 + 2 * j) = w)) → nc = 8 → K (.inl (some (.int (jI 1)))) (MM Ln (LD (NT σ 1 (jI 8)) o g ng nd nc) lo db))
    (H : (∀ j, j < nc → ¬ (g (183 + 2 * j) = v ∧ g (184 + 2 * j) = w)) → nc < 8 → K (.inl (some (.int (jI 0)))) (MM Ln (LD σ o g ng nd nc) lo db)) :
    Ev 20 (0, [.ref o, .int v, .int w, .ref 367, .null], [], 0, 0, MM Ln (LD σ o g ng nd nc) lo db) K := by
  simp (disch := first | assumption | omega) only [s_20_0, s_20_1, s_20_5, s_20_6, s_20_9, s_20_12, s_20_13, s_20_16, s_20_18, s_20_19, s_20_20, s_20_23, s_20_24, s_20_27, s_20_29, s_20_30, s_20_31, s_20_34, s_20_35, s_20_36, s_20_38, r_20_38, s_20_41, s_20_42, s_20_45, s_20_48, s_20_49, s_20_52, s_20_54, s_20_57, s_20_58, s_20_59, s_20_61, r_20_61, s_20_64, s_20_65, s_20_66, jI_mul, jI_add, jI_tnc, jI_ixT, true_and, and_true, bZ_0, bZ_1, bZ_b, jI_nz, jI_div, jI_rem, jI_mod, Nat.add_zero, bI_if, not_false_iff, if_true, if_false, eq_self]
  refine lup0 nc (fun i x => x = (3, [.ref o, .int v, .int w, .ref 367, .int (jI i)], [], 0, 0, MM Ln (LD σ o g ng nd nc) lo db) ∧ ∀ j, j < i → ¬ (g (183 + 2 * j) = v ∧ g (184 + 2 * j) = w)) ⟨rfl, fun j hj => absurd hj (Nat.not_lt_zero j)⟩ ?_ ?_
  · rintro i x hi ⟨rfl, hno⟩ hn
    rw [s_20_3]
    simp (disch := first | assumption | omega) only [s_20_0, s_20_1, s_20_5, s_20_6, s_20_9, s_20_12, s_20_13, s_20_16, s_20_18, s_20_19, s_20_20, s_20_23, s_20_24, s_20_27, s_20_29, s_20_30, s_20_31, s_20_34, s_20_35, s_20_36, s_20_38, r_20_38, s_20_41, s_20_42, s_20_45, s_20_48, s_20_49, s_20_52, s_20_54, s_20_57, s_20_58, s_20_59, s_20_61, r_20_61, s_20_64, s_20_65, s_20_66, jI_mul, jI_add, jI_tnc, jI_ixT, true_and, and_true, bZ_0, bZ_1, bZ_b, jI_nz, jI_div, jI_rem, jI_mod, Nat.add_zero, bI_if, not_false_iff, if_true, if_false, eq_self, LD_s6, LD_s7, LD_s8, LD_s9, LD_s10, LD_s11, LD_s12, LD_b0, LD_b1, LD_b2, LD_b3, LD_b4, LD_b5, LD_b6, LD_b7, LD_g1, LD_g2, LD_g3, LD_g4, LD_n0, LD_n1, LD_n2, LD_n3, LD_n4, LD_n5, LD_n6, LD_n7, LD_n8, LD_cp, LD_ac, LD_or, LD_oh, h5, jI_le]
    rw [if_neg (by omega)]
    by_cases q1 : g (183 + 2 * i) = v
    · by_cases q2 : g (184 + 2 * i) = w
      · rw [if_pos q1, if_pos q2]
        simp (disch := first | assumption | omega) only [s_20_0, s_20_1, s_20_5, s_20_6, s_20_9, s_20_12, s_20_13, s_20_16, s_20_18, s_20_19, s_20_20, s_20_23, s_20_24, s_20_27, s_20_29, s_20_30, s_20_31, s_20_34, s_20_35, s_20_36, s_20_38, r_20_38, s_20_41, s_20_42, s_20_45, s_20_48, s_20_49, s_20_52, s_20_54, s_20_57, s_20_58, s_20_59, s_20_61, r_20_61, s_20_64, s_20_65, s_20_66, jI_mul, jI_add, jI_tnc, jI_ixT, true_and, and_true, bZ_0, bZ_1, bZ_b, jI_nz, jI_div, jI_rem, jI_mod, Nat.add_zero, bI_if, not_false_iff, if_true, if_false, eq_self, m_note, LD_urf]
        exact F3 i hi q1 q2 hno
      · rw [if_pos q1, if_neg q2]
        refine hn _ ⟨rfl, fun j hj e => ?_⟩
        by_cases hji : j = i
        · subst hji; exact q2 e.2
        · exact hno j (by omega) e
    · rw [if_neg q1]
      refine hn _ ⟨rfl, fun j hj e => ?_⟩
      by_cases hji : j = i
      · subst hji; exact q1 e.1
      · exact hno j (by omega) e
  · rintro x ⟨rfl, hno⟩
    rw [s_20_3]
    simp (disch := first | assumption | omega) only [s_20_0, s_20_1, s_20_5, s_20_6, s_20_9, s_20_12, s_20_13, s_20_16, s_20_18, s_20_19, s_20_20, s_20_23, s_20_24, s_20_27, s_20_29, s_20_30, s_20_31, s_20_34, s_20_35, s_20_36, s_20_38, r_20_38, s_20_41, s_20_42, s_20_45, s_20_48, s_20_49, s_20_52, s_20_54, s_20_57, s_20_58, s_20_59, s_20_61, r_20_61, s_20_64, s_20_65, s_20_66, jI_mul, jI_add, jI_tnc, jI_ixT, true_and, and_true, bZ_0, bZ_1, bZ_b, jI_nz, jI_div, jI_rem, jI_mod, Nat.add_zero, bI_if, not_false_iff, if_true, if_false, eq_self, LD_s6, LD_s7, LD_s8, LD_s9, LD_s10, LD_s11, LD_s12, LD_b0, LD_b1, LD_b2, LD_b3, LD_b4, LD_b5, LD_b6, LD_b7, LD_g1, LD_g2, LD_g3, LD_g4, LD_n0, LD_n1, LD_n2, LD_n3, LD_n4, LD_n5, LD_n6, LD_n7, LD_n8, LD_cp, LD_ac, LD_or, LD_oh, h5, jI_le, jI_lt, Nat.le_refl, if_true]
    by_cases h8 : nc < 8
    · rw [if_pos h8]
      exact H hno h8
    · rw [if_neg h8]
      simp (disch := first | assumption | omega) only [s_20_0, s_20_1, s_20_5, s_20_6, s_20_9, s_20_12, s_20_13, s_20_16, s_20_18, s_20_19, s_20_20, s_20_23, s_20_24, s_20_27, s_20_29, s_20_30, s_20_31, s_20_34, s_20_35, s_20_36, s_20_38, r_20_38, s_20_41, s_20_42, s_20_45, s_20_48, s_20_49, s_20_52, s_20_54, s_20_57, s_20_58, s_20_59, s_20_61, r_20_61, s_20_64, s_20_65, s_20_66, jI_mul, jI_add, jI_tnc, jI_ixT, true_and, and_true, bZ_0, bZ_1, bZ_b, jI_nz, jI_div, jI_rem, jI_mod, Nat.add_zero, bI_if, not_false_iff, if_true, if_false, eq_self, m_note, LD_urf]
      exact F4 hno (by omega)
theorem LD_growC (hng : ng ≤ 6) (hnd : nd ≤ 12) : LD σ o g ng nd nc = LD (LD σ o g ng nd nc) o (VW (LD σ o g ng nd nc) o) ng nd (nc + 1) := (LD_VW hng hnd).symm
/-- the numbers below are what was laid -/
theorem VW_at (hng : ng ≤ 6) (hnd : nd ≤ 12) (hnc : nc ≤ 8) (hR : LD σ o g ng nd nc = σ) {k : Nat} (hk : k < 15 ∨ (15 ≤ k ∧ k < 15 + 10 * ng ∧ (k - 15) % 10 < 4) ∨ (75 ≤ k ∧ k < 75 + 9 * nd) ∨ (183 ≤ k ∧ k < 183 + 2 * nc)) : VW σ o k = g k := by
  have key : ∀ a j, ixL o ng nd nc a j = some k → VW σ o k = g k := fun a j e => by
    rw [VW_ix hng hnd e]
    have := congrFun (congrFun hR a) j
    rw [LD_at e] at this
    exact this.symm
  rcases hk with hk | hk | hk | hk
  · by_cases h7 : 7 ≤ k
    · refine key (bkA o) (k - 7) ?_
      rw [ix_b (by omega)]
      congr 1
      omega
    · have : k = 0 ∨ k = 1 ∨ k = 2 ∨ k = 3 ∨ k = 4 ∨ k = 5 ∨ k = 6 := by omega
      rcases this with rfl | rfl | rfl | rfl | rfl | rfl | rfl
      · exact key o 9 ix_s9
      · exact key o 10 ix_s10
      · exact key o 11 ix_s11
      · exact key o 6 ix_s6
      · exact key o 7 ix_s7
      · exact key o 8 ix_s8
      · exact key o 12 ix_s12
  · refine key (gA o ((k - 15) / 10)) ((k - 15) % 10 + 1) ?_
    rw [ix_g (by omega) (by omega) (by omega)]
    congr 1
    omega
  · refine key (nA o ((k - 75) / 9)) ((k - 75) % 9) ?_
    rw [ix_n hng (by omega) (by omega)]
    congr 1
    omega
  · by_cases hm : (k - 183) % 2 = 0
    · refine key (cpA o) ((k - 183) / 2) ?_
      unfold ixL cpA
      rw [if_neg (by omega), if_neg (by omega), if_neg (by omega), if_neg (by omega), if_pos (by omega)]
      congr 1
      omega
    · refine key (acA o) ((k - 183) / 2) ?_
      unfold ixL acA
      rw [if_neg (by omega), if_neg (by omega), if_neg (by omega), if_neg (by omega), if_neg (by omega), if_pos (by omega)]
      congr 1
      omega
theorem Fo.out {σ' : Nat → Nat → Int32} (f : Fo o σ σ') : Fout o σ σ' := f.1
theorem Fout.trans {σ' σ'' : Nat → Nat → Int32} (h : Fout o σ σ') (h' : Fout o σ' σ'') : Fout o σ σ'' := fun a ha => (h' a ha).trans (h a ha)
theorem Fout.ld {σ' : Nat → Nat → Int32} {g' : Gr} {nc' ng' nd' : Nat} (hng : ng' ≤ 6) (hnd : nd' ≤ 12) (f : Fout o σ σ') : Fout o σ (LD σ' o g' ng' nd' nc') := fun a ha => by
  rw [← f a ha]
  funext k
  exact LD_out hng hnd ha
theorem OHc.ld {σ' : Nat → Nat → Int32} {g' : Gr} {nc' nd' : Nat} (hng : ng ≤ 6) (hO : OHc σ' o ng oh) : OHc (LD σ' o g' ng nd' nc') o ng oh := by
  intro i hi
  have e : ∀ d, LD σ' o g' ng nd' nc' (ohA o i) d = σ' (ohA o i) d := fun d => LD_oh hng (by omega)
  obtain ⟨h1, h2⟩ := hO i hi
  exact ⟨fun x hx => by rw [e]; exact h1 x hx, fun d r hd hr => by rw [e]; exact h2 d r hd hr⟩
theorem RD.ld {σ' : Nat → Nat → Int32} {g' : Gr} {nc' nd' : Nat} (hng : ng ≤ 6) (hO : OHc σ' o ng oh) : RD (LD σ' o g' ng nd' nc') o g' oh ng nd' nc' := ⟨LD_LD, hO.ld hng⟩
theorem c_addC {a b : Nat} (ho : DI o) (hng : ng ≤ 6) (hnd : nd ≤ 12) (hnc : nc < 8) (h5 : g 5 = jI nc) (H : ∀ σ', Fo o σ σ' → K (.inl none) (MM Ln (LD σ' o (cplS g nc (jI a) (jI b)) ng nd (nc + 1)) lo db)) :
    Ev 21 (0, [.ref o, .int (jI a), .int (jI b)], [], 0, 0, MM Ln (LD σ o g ng nd nc) lo db) K := by
  have hv : ∀ {k : Nat}, _ → VW (LD σ o g ng nd nc) o k = g k := fun {k} hk => VW_at (k := k) hng hnd (by omega) LD_LD hk
  rw [LD_growC hng hnd]
  have f0 : Fo o σ (LD σ o g ng nd nc) := Fo.ld hng hnd
  generalize LD σ o g ng nd nc = τ at *
  generalize VW τ o = g0 at *
  have e5 : g0 5 = jI nc := (hv (by omega)).trans h5
  simp (disch := first | assumption | omega) only [s_21_0, s_21_1, s_21_4, s_21_6, s_21_9, s_21_10, s_21_13, s_21_14, s_21_17, s_21_18, s_21_19, s_21_20, s_21_23, s_21_24, s_21_27, s_21_28, s_21_29, s_21_30, s_21_31, s_21_34, s_21_35, s_21_36, s_21_39, jI_mul, jI_add, jI_tnc, jI_ixT, true_and, and_true, bZ_0, bZ_1, bZ_b, jI_nz, jI_div, jI_rem, jI_mod, Nat.add_zero, bI_if, not_false_iff, if_true, if_false, eq_self, LD_s6, LD_s7, LD_s8, LD_s9, LD_s10, LD_s11, LD_s12, LD_b0, LD_b1, LD_b2, LD_b3, LD_b4, LD_b5, LD_b6, LD_b7, LD_g1, LD_g2, LD_g3, LD_g4, LD_n0, LD_n1, LD_n2, LD_n3, LD_n4, LD_n5, LD_n6, LD_n7, LD_n8, LD_cp, LD_ac, LD_or, LD_oh, LD_us6, LD_us7, LD_us8, LD_us9, LD_us10, LD_us11, LD_us12, LD_ub0, LD_ub1, LD_ub2, LD_ub3, LD_ub4, LD_ub5, LD_ub6, LD_ub7, LD_ug1, LD_ug2, LD_ug3, LD_ug4, LD_un0, LD_un1, LD_un2, LD_un3, LD_un4, LD_un5, LD_un6, LD_un7, LD_un8, LD_uor, LD_uoh, e5, jI_lt, LD_ucp, LD_uac, gu_ne]
  rw [if_neg (by rw [jI_le (by omega) (by omega)]; omega)]
  rw [LD_cg (g := cplS g nc (jI a) (jI b)) (fun k hk => ?_)]
  · exact H τ f0
  · unfold cplS
    by_cases k5 : k = 5
    · subst k5; rw [gu_at, gu_at]
    · rw [gu_ne k5, gu_ne k5]
      by_cases kb : k = 183 + 2 * nc + 1
      · subst kb
        rw [show 184 + 2 * nc = 183 + 2 * nc + 1 by omega, gu_at, gu_at]
      · by_cases ka : k = 183 + 2 * nc
        · subst ka
          simp (disch := omega) only [gu_ne, gu_at]
        · rw [gu_ne (by omega), gu_ne ka, gu_ne kb, gu_ne ka]
          exact hv (by omega)
theorem c_cost {k : Nat} (ho : DI o) (hng : ng ≤ 6) (hk : k < ng) : Ev 51 (0, [.ref (gA o k)], [], 0, 0, MM Ln (LD σ o g ng nd nc) lo db) K ↔ K (.inl (some (.int (jI 2 * g (15 + 10 * k + 1))))) (MM Ln (LD σ o g ng nd nc) lo db) := by
  simp (disch := first | assumption | omega) only [s_51_0, s_51_1, s_51_2, s_51_5, s_51_6, jI_mul, jI_add, jI_tnc, jI_ixT, true_and, and_true, bZ_0, bZ_1, bZ_b, jI_nz, jI_div, jI_rem, jI_mod, Nat.add_zero, bI_if, not_false_iff, if_true, if_false, eq_self, LD_s6, LD_s7, LD_s8, LD_s9, LD_s10, LD_s11, LD_s12, LD_b0, LD_b1, LD_b2, LD_b3, LD_b4, LD_b5, LD_b6, LD_b7, LD_g1, LD_g2, LD_g3, LD_g4, LD_n0, LD_n1, LD_n2, LD_n3, LD_n4, LD_n5, LD_n6, LD_n7, LD_n8, LD_cp, LD_ac, LD_or, LD_oh]
/-- the sum of shares -/
theorem c_sharesF {st : Int32} (ho : DI o) (hng : ng ≤ 6) (hnd : nd ≤ 12) (h4 : g 4 = jI nd) : Ev 26 (0, [.ref o, .int st, .null, .null], [], 0, 0, MM Ln (LD σ o g ng nd nc) lo db) K ↔ K (.inl (some (.int (shS g nd st)))) (MM Ln (LD σ o g ng nd nc) lo db) := by
  have step : ∀ i, i ≤ nd → (Ev 26 (0, [.ref o, .int st, .null, .null], [], 0, 0, MM Ln (LD σ o g ng nd nc) lo db) K ↔ Ev 26 (4, [.ref o, .int st, .int (shS g i st), .int (jI i)], [], 0, 0, MM Ln (LD σ o g ng nd nc) lo db) K) := by
    intro i
    induction i with
    | zero => intro _; simp only [s_26_0, s_26_1, s_26_2, s_26_3, s_26_5, s_26_6, s_26_9, s_26_12, s_26_13, s_26_16, s_26_17, s_26_18, s_26_21, s_26_22, s_26_25, s_26_26, s_26_27, s_26_30, s_26_31, s_26_32, s_26_35, s_26_36, s_26_37, s_26_40, s_26_43, s_26_44]; rfl
    | succ i ih =>
      intro hi
      have e : shS g (i + 1) st = shS g i st + (if g (75 + 9 * i) < st then jI 0 else g (75 + 9 * i + 2)) := rfl
      rw [ih (by omega), s_26_4, e]
      simp (disch := first | assumption | omega) only [s_26_0, s_26_1, s_26_2, s_26_3, s_26_5, s_26_6, s_26_9, s_26_12, s_26_13, s_26_16, s_26_17, s_26_18, s_26_21, s_26_22, s_26_25, s_26_26, s_26_27, s_26_30, s_26_31, s_26_32, s_26_35, s_26_36, s_26_37, s_26_40, s_26_43, s_26_44, jI_mul, jI_add, jI_tnc, jI_ixT, true_and, and_true, bZ_0, bZ_1, bZ_b, jI_nz, jI_div, jI_rem, jI_mod, Nat.add_zero, bI_if, not_false_iff, if_true, if_false, eq_self, LD_s6, LD_s7, LD_s8, LD_s9, LD_s10, LD_s11, LD_s12, LD_b0, LD_b1, LD_b2, LD_b3, LD_b4, LD_b5, LD_b6, LD_b7, LD_g1, LD_g2, LD_g3, LD_g4, LD_n0, LD_n1, LD_n2, LD_n3, LD_n4, LD_n5, LD_n6, LD_n7, LD_n8, LD_cp, LD_ac, LD_or, LD_oh, h4, jI_le]
      rw [if_neg (by omega)]
      by_cases q : g (75 + 9 * i) < st
      · rw [if_pos q, if_pos q, show shS g i st + jI 0 = shS g i st from Int32.add_zero _]
      · rw [if_neg q, if_neg q]
  rw [step nd (Nat.le_refl _), s_26_4]
  simp (disch := first | assumption | omega) only [s_26_0, s_26_1, s_26_2, s_26_3, s_26_5, s_26_6, s_26_9, s_26_12, s_26_13, s_26_16, s_26_17, s_26_18, s_26_21, s_26_22, s_26_25, s_26_26, s_26_27, s_26_30, s_26_31, s_26_32, s_26_35, s_26_36, s_26_37, s_26_40, s_26_43, s_26_44, jI_mul, jI_add, jI_tnc, jI_ixT, true_and, and_true, bZ_0, bZ_1, bZ_b, jI_nz, jI_div, jI_rem, jI_mod, Nat.add_zero, bI_if, not_false_iff, if_true, if_false, eq_self, LD_s6, LD_s7, LD_s8, LD_s9, LD_s10, LD_s11, LD_s12, LD_b0, LD_b1, LD_b2, LD_b3, LD_b4, LD_b5, LD_b6, LD_b7, LD_g1, LD_g2, LD_g3, LD_g4, LD_n0, LD_n1, LD_n2, LD_n3, LD_n4, LD_n5, LD_n6, LD_n7, LD_n8, LD_cp, LD_ac, LD_or, LD_oh, h4, jI_le, Nat.le_refl, if_true]
/-- shares are numbers -/
theorem sh_ty (hng : ng ≤ 6) (hnd : nd ≤ 12) (hQ : QI g ng nd nc) {st : Int32} : ∀ n, n ≤ nd → ∃ s, s ≤ 9 * n ∧ shS g n st = jI s ∧ ((∃ i, i < n ∧ ¬ g (75 + 9 * i) < st) → 1 ≤ s)
  | 0, _ => ⟨0, Nat.le_refl 0, rfl, fun ⟨i, hi, _⟩ => absurd hi (Nat.not_lt_zero i)⟩
  | n + 1, hn => by
    obtain ⟨s, h1, h2, h3⟩ := sh_ty hng hnd hQ (st := st) n (by omega)
    obtain ⟨w, w1, w2, w3⟩ := (QC_2 hng (show n < nd by omega)).mp (hQ (75 + 9 * n + 2))
    have e : shS g (n + 1) st = shS g n st + (if g (75 + 9 * n) < st then jI 0 else g (75 + 9 * n + 2)) := rfl
    by_cases q : g (75 + 9 * n) < st
    · refine ⟨s, by omega, ?_, fun ⟨i, hi, hq⟩ => ?_⟩
      · rw [e, if_pos q, h2, jI_add]; rfl
      · refine h3 ⟨i, ?_, hq⟩
        by_cases hin : i = n
        · subst hin; exact absurd q hq
        · omega
    · refine ⟨s + w, by omega, ?_, fun _ => by omega⟩
      rw [e, if_neg q, h2, w3, jI_add]
theorem sh_nz (hng : ng ≤ 6) (hnd : nd ≤ 12) (hQ : QI g ng nd nc) {st : Int32} (hi : i < nd) (h : ¬ g (75 + 9 * i) < st) : ¬ shS g nd st = jI 0 := by
  obtain ⟨s, h1, h2, h3⟩ := sh_ty hng hnd hQ (st := st) nd (Nat.le_refl _)
  have := h3 ⟨i, hi, h⟩
  rw [h2, jI_inj (by omega) (by omega)]
  omega
theorem c_part {st : Nat} (ho : DI o) (hng : ng ≤ 6) (hnd : nd ≤ 12) (hQ : QI g ng nd nc) (hi : i < nd) (hs : st < ng) : Ev 27 (0, [.ref o, .int (jI i), .int (jI st), .int (shS g nd (jI st)), .null], [], 0, 0, MM Ln (LD σ o g ng nd nc) lo db) K ↔ K (.inl (some (.int (ptS g nd i st)))) (MM Ln (LD σ o g ng nd nc) lo db) := by
  obtain ⟨s, h1, h2, h3⟩ := sh_ty hng hnd hQ (st := jI st) nd (Nat.le_refl _)
  unfold ptS
  by_cases q : g (75 + 9 * i) < jI st
  · simp (disch := first | assumption | omega) only [s_27_0, s_27_1, s_27_4, s_27_5, s_27_6, s_27_9, s_27_10, s_27_13, s_27_14, s_27_17, s_27_18, s_27_19, s_27_20, s_27_23, s_27_24, s_27_25, r_27_25, s_27_28, s_27_29, s_27_32, s_27_33, s_27_34, s_27_38, s_27_40, s_27_42, s_27_43, s_27_44, s_27_45, s_27_46, s_27_47, s_27_48, jI_mul, jI_add, jI_tnc, jI_ixT, true_and, and_true, bZ_0, bZ_1, bZ_b, jI_nz, jI_div, jI_rem, jI_mod, Nat.add_zero, bI_if, not_false_iff, if_true, if_false, eq_self, LD_s6, LD_s7, LD_s8, LD_s9, LD_s10, LD_s11, LD_s12, LD_b0, LD_b1, LD_b2, LD_b3, LD_b4, LD_b5, LD_b6, LD_b7, LD_g1, LD_g2, LD_g3, LD_g4, LD_n0, LD_n1, LD_n2, LD_n3, LD_n4, LD_n5, LD_n6, LD_n7, LD_n8, LD_cp, LD_ac, LD_or, LD_oh, q, if_true]
  · have hp := h3 ⟨i, hi, q⟩
    have q0 : (jI 0 < jI s) = True := eq_true ((jI_lt (by omega) (by omega)).mpr (by omega))
    have qz : (jI s = jI 0) = False := jI_nz (by omega) (by omega)
    rw [h2]
    simp (disch := first | assumption | omega) only [s_27_0, s_27_1, s_27_4, s_27_5, s_27_6, s_27_9, s_27_10, s_27_13, s_27_14, s_27_17, s_27_18, s_27_19, s_27_20, s_27_23, s_27_24, s_27_25, r_27_25, s_27_28, s_27_29, s_27_32, s_27_33, s_27_34, s_27_37, s_27_38, s_27_40, s_27_42, s_27_43, s_27_44, s_27_45, s_27_46, s_27_47, s_27_48, jI_mul, jI_add, jI_tnc, jI_ixT, true_and, and_true, bZ_0, bZ_1, bZ_b, jI_nz, jI_div, jI_rem, jI_mod, Nat.add_zero, bI_if, not_false_iff, if_true, if_false, eq_self, LD_s6, LD_s7, LD_s8, LD_s9, LD_s10, LD_s11, LD_s12, LD_b0, LD_b1, LD_b2, LD_b3, LD_b4, LD_b5, LD_b6, LD_b7, LD_g1, LD_g2, LD_g3, LD_g4, LD_n0, LD_n1, LD_n2, LD_n3, LD_n4, LD_n5, LD_n6, LD_n7, LD_n8, LD_cp, LD_ac, LD_or, LD_oh, q, if_false, q0, c_cost, qz]
theorem c_pays {st : Nat} (ho : DI o) (hng : ng ≤ 6) (hnd : nd ≤ 12) (hQ : QI g ng nd nc) (hi : i < nd) (hs : st < ng) : Ev 28 (0, [.ref o, .int (jI i), .int (jI st), .int (shS g nd (jI st))], [], 0, 0, MM Ln (LD σ o g ng nd nc) lo db) K ↔ K (.inl (some (.int (pyS g nd i st)))) (MM Ln (LD σ o g ng nd nc) lo db) := by
  have e : mn (ptS g nd i st) (g (75 + 9 * i + 3)) = pyS g nd i st := mn_comm _ _
  simp (disch := first | assumption | omega) only [s_28_0, s_28_1, s_28_2, s_28_3, s_28_4, r_28_4, s_28_7, s_28_8, s_28_11, s_28_12, s_28_13, s_28_16, r_28_16, s_28_19, jI_mul, jI_add, jI_tnc, jI_ixT, true_and, and_true, bZ_0, bZ_1, bZ_b, jI_nz, jI_div, jI_rem, jI_mod, Nat.add_zero, bI_if, not_false_iff, if_true, if_false, eq_self, LD_s6, LD_s7, LD_s8, LD_s9, LD_s10, LD_s11, LD_s12, LD_b0, LD_b1, LD_b2, LD_b3, LD_b4, LD_b5, LD_b6, LD_b7, LD_g1, LD_g2, LD_g3, LD_g4, LD_n0, LD_n1, LD_n2, LD_n3, LD_n4, LD_n5, LD_n6, LD_n7, LD_n8, LD_cp, LD_ac, LD_or, LD_oh, c_part, m_min, e]
theorem sub_add32 (a b c : Int32) : a - (b + c) = a - b - c := by
  have e1 : a - (b + c) = a + -(b + c) := Int32.sub_eq_add_neg _ _
  have e2 : -b - c = -b + -c := Int32.sub_eq_add_neg _ _
  have e3 : a - b - c = a - b + -c := Int32.sub_eq_add_neg _ _
  have e4 : a - b = a + -b := Int32.sub_eq_add_neg _ _
  rw [e1, Int32.neg_add, e2, e3, e4, Int32.add_assoc]
theorem rp_eq {st : Nat} : ∀ n, g 6 + rpSum g nd st n = itN n (fun i v => v + pyS g nd i st) (g 6)
  | 0 => Int32.add_zero _
  | n + 1 => by
    have e : rpSum g nd st (n + 1) = rpSum g nd st n + pyS g nd n st := rfl
    rw [e, itN_succ, ← Int32.add_assoc, rp_eq n]
theorem c_refR {st : Nat} (ho : DI o) (hng : ng ≤ 6) (hnd : nd ≤ 12) (h4 : g 4 = jI nd) (hQ : QI g ng nd nc) (hs : st < ng)
    (F2 : g (15 + 10 * st + 1) = jI 0 → K (.inl (some (.int (jI 1)))) (MM Ln (LD (NT σ 3 (jI st)) o g ng nd nc) lo db))
    (F3 : ¬ g (15 + 10 * st + 1) = jI 0 → shS g nd (jI st) = jI 0 → K (.inl (some (.int (jI 1)))) (MM Ln (LD (NT σ 4 (jI st)) o g ng nd nc) lo db))
    (F4 : ¬ g (15 + 10 * st + 1) = jI 0 → ¬ shS g nd (jI st) = jI 0 → g 6 + rpSum g nd st nd < jI 2 * g (15 + 10 * st + 1) → K (.inl (some (.int (jI 1)))) (MM Ln (LD (NT σ 5 (jI 2 * g (15 + 10 * st + 1) - g 6 - rpSum g nd st nd)) o g ng nd nc) lo db))
    (H : ¬ g (15 + 10 * st + 1) = jI 0 → ¬ shS g nd (jI st) = jI 0 → ¬ g 6 + rpSum g nd st nd < jI 2 * g (15 + 10 * st + 1) → K (.inl (some (.int (jI 0)))) (MM Ln (LD σ o g ng nd nc) lo db)) :
    Ev 24 (0, [.ref o, .int (jI st), .ref 367, .null, .null, .null], [], 0, 0, MM Ln (LD σ o g ng nd nc) lo db) K := by
  simp (disch := first | assumption | omega) only [s_24_0, s_24_1, s_24_4, s_24_5, s_24_6, s_24_9, s_24_12, s_24_13, s_24_14, s_24_15, r_24_15, s_24_18, s_24_19, s_24_20, s_24_21, r_24_21, s_24_24, s_24_25, s_24_26, s_24_29, s_24_30, s_24_31, s_24_32, r_24_32, s_24_35, s_24_36, s_24_37, s_24_40, s_24_42, s_24_43, s_24_47, s_24_48, s_24_51, s_24_54, s_24_56, s_24_57, s_24_59, s_24_60, s_24_61, r_24_61, s_24_64, s_24_65, s_24_67, s_24_70, s_24_73, s_24_74, s_24_77, s_24_78, s_24_79, r_24_79, s_24_82, s_24_84, s_24_86, s_24_88, s_24_91, s_24_92, s_24_93, s_24_95, s_24_97, s_24_98, r_24_98, s_24_101, s_24_102, s_24_103, jI_mul, jI_add, jI_tnc, jI_ixT, true_and, and_true, bZ_0, bZ_1, bZ_b, jI_nz, jI_div, jI_rem, jI_mod, Nat.add_zero, bI_if, not_false_iff, if_true, if_false, eq_self, LD_s6, LD_s7, LD_s8, LD_s9, LD_s10, LD_s11, LD_s12, LD_b0, LD_b1, LD_b2, LD_b3, LD_b4, LD_b5, LD_b6, LD_b7, LD_g1, LD_g2, LD_g3, LD_g4, LD_n0, LD_n1, LD_n2, LD_n3, LD_n4, LD_n5, LD_n6, LD_n7, LD_n8, LD_cp, LD_ac, LD_or, LD_oh]
  by_cases h2 : g (15 + 10 * st + 1) = jI 0
  · rw [if_pos h2]
    simp (disch := first | assumption | omega) only [s_24_0, s_24_1, s_24_4, s_24_5, s_24_6, s_24_9, s_24_12, s_24_13, s_24_14, s_24_15, r_24_15, s_24_18, s_24_19, s_24_20, s_24_21, r_24_21, s_24_24, s_24_25, s_24_26, s_24_29, s_24_30, s_24_31, s_24_32, r_24_32, s_24_35, s_24_36, s_24_37, s_24_40, s_24_42, s_24_43, s_24_47, s_24_48, s_24_51, s_24_54, s_24_56, s_24_57, s_24_59, s_24_60, s_24_61, r_24_61, s_24_64, s_24_65, s_24_67, s_24_70, s_24_73, s_24_74, s_24_77, s_24_78, s_24_79, r_24_79, s_24_82, s_24_84, s_24_86, s_24_88, s_24_91, s_24_92, s_24_93, s_24_95, s_24_97, s_24_98, r_24_98, s_24_101, s_24_102, s_24_103, jI_mul, jI_add, jI_tnc, jI_ixT, true_and, and_true, bZ_0, bZ_1, bZ_b, jI_nz, jI_div, jI_rem, jI_mod, Nat.add_zero, bI_if, not_false_iff, if_true, if_false, eq_self, m_note, LD_urf]
    exact F2 h2
  · rw [if_neg h2]
    simp (disch := first | assumption | omega) only [s_24_0, s_24_1, s_24_4, s_24_5, s_24_6, s_24_9, s_24_12, s_24_13, s_24_14, s_24_15, r_24_15, s_24_18, s_24_19, s_24_20, s_24_21, r_24_21, s_24_24, s_24_25, s_24_26, s_24_29, s_24_30, s_24_31, s_24_32, r_24_32, s_24_35, s_24_36, s_24_37, s_24_40, s_24_42, s_24_43, s_24_47, s_24_48, s_24_51, s_24_54, s_24_56, s_24_57, s_24_59, s_24_60, s_24_61, r_24_61, s_24_64, s_24_65, s_24_67, s_24_70, s_24_73, s_24_74, s_24_77, s_24_78, s_24_79, r_24_79, s_24_82, s_24_84, s_24_86, s_24_88, s_24_91, s_24_92, s_24_93, s_24_95, s_24_97, s_24_98, r_24_98, s_24_101, s_24_102, s_24_103, jI_mul, jI_add, jI_tnc, jI_ixT, true_and, and_true, bZ_0, bZ_1, bZ_b, jI_nz, jI_div, jI_rem, jI_mod, Nat.add_zero, bI_if, not_false_iff, if_true, if_false, eq_self, c_sharesF]
    by_cases hz : shS g nd (jI st) = jI 0
    · rw [if_pos hz]
      simp (disch := first | assumption | omega) only [s_24_0, s_24_1, s_24_4, s_24_5, s_24_6, s_24_9, s_24_12, s_24_13, s_24_14, s_24_15, r_24_15, s_24_18, s_24_19, s_24_20, s_24_21, r_24_21, s_24_24, s_24_25, s_24_26, s_24_29, s_24_30, s_24_31, s_24_32, r_24_32, s_24_35, s_24_36, s_24_37, s_24_40, s_24_42, s_24_43, s_24_47, s_24_48, s_24_51, s_24_54, s_24_56, s_24_57, s_24_59, s_24_60, s_24_61, r_24_61, s_24_64, s_24_65, s_24_67, s_24_70, s_24_73, s_24_74, s_24_77, s_24_78, s_24_79, r_24_79, s_24_82, s_24_84, s_24_86, s_24_88, s_24_91, s_24_92, s_24_93, s_24_95, s_24_97, s_24_98, r_24_98, s_24_101, s_24_102, s_24_103, jI_mul, jI_add, jI_tnc, jI_ixT, true_and, and_true, bZ_0, bZ_1, bZ_b, jI_nz, jI_div, jI_rem, jI_mod, Nat.add_zero, bI_if, not_false_iff, if_true, if_false, eq_self, m_note, LD_urf]
      exact F3 h2 hz
    · rw [if_neg hz]
      simp (disch := first | assumption | omega) only [s_24_0, s_24_1, s_24_4, s_24_5, s_24_6, s_24_9, s_24_12, s_24_13, s_24_14, s_24_15, r_24_15, s_24_18, s_24_19, s_24_20, s_24_21, r_24_21, s_24_24, s_24_25, s_24_26, s_24_29, s_24_30, s_24_31, s_24_32, r_24_32, s_24_35, s_24_36, s_24_37, s_24_40, s_24_42, s_24_43, s_24_47, s_24_48, s_24_51, s_24_54, s_24_56, s_24_57, s_24_59, s_24_60, s_24_61, r_24_61, s_24_64, s_24_65, s_24_67, s_24_70, s_24_73, s_24_74, s_24_77, s_24_78, s_24_79, r_24_79, s_24_82, s_24_84, s_24_86, s_24_88, s_24_91, s_24_92, s_24_93, s_24_95, s_24_97, s_24_98, r_24_98, s_24_101, s_24_102, s_24_103, jI_mul, jI_add, jI_tnc, jI_ixT, true_and, and_true, bZ_0, bZ_1, bZ_b, jI_nz, jI_div, jI_rem, jI_mod, Nat.add_zero, bI_if, not_false_iff, if_true, if_false, eq_self, LD_s6, LD_s7, LD_s8, LD_s9, LD_s10, LD_s11, LD_s12, LD_b0, LD_b1, LD_b2, LD_b3, LD_b4, LD_b5, LD_b6, LD_b7, LD_g1, LD_g2, LD_g3, LD_g4, LD_n0, LD_n1, LD_n2, LD_n3, LD_n4, LD_n5, LD_n6, LD_n7, LD_n8, LD_cp, LD_ac, LD_or, LD_oh]
      refine lup0 nd (fun i x => x = (45, [.ref o, .int (jI st), .ref 367, .int (shS g nd (jI st)), .int (itN i (fun i v => v + pyS g nd i st) (g 6)), .int (jI i)], [], 0, 0, MM Ln (LD σ o g ng nd nc) lo db)) rfl ?_ ?_
      · rintro i x hi rfl hn
        have hn := hn _ rfl
        rw [itN_succ] at hn
        rw [s_24_45]
        simp (disch := first | assumption | omega) only [s_24_0, s_24_1, s_24_4, s_24_5, s_24_6, s_24_9, s_24_12, s_24_13, s_24_14, s_24_15, r_24_15, s_24_18, s_24_19, s_24_20, s_24_21, r_24_21, s_24_24, s_24_25, s_24_26, s_24_29, s_24_30, s_24_31, s_24_32, r_24_32, s_24_35, s_24_36, s_24_37, s_24_40, s_24_42, s_24_43, s_24_47, s_24_48, s_24_51, s_24_54, s_24_56, s_24_57, s_24_59, s_24_60, s_24_61, r_24_61, s_24_64, s_24_65, s_24_67, s_24_70, s_24_73, s_24_74, s_24_77, s_24_78, s_24_79, r_24_79, s_24_82, s_24_84, s_24_86, s_24_88, s_24_91, s_24_92, s_24_93, s_24_95, s_24_97, s_24_98, r_24_98, s_24_101, s_24_102, s_24_103, jI_mul, jI_add, jI_tnc, jI_ixT, true_and, and_true, bZ_0, bZ_1, bZ_b, jI_nz, jI_div, jI_rem, jI_mod, Nat.add_zero, bI_if, not_false_iff, if_true, if_false, eq_self, LD_s6, LD_s7, LD_s8, LD_s9, LD_s10, LD_s11, LD_s12, LD_b0, LD_b1, LD_b2, LD_b3, LD_b4, LD_b5, LD_b6, LD_b7, LD_g1, LD_g2, LD_g3, LD_g4, LD_n0, LD_n1, LD_n2, LD_n3, LD_n4, LD_n5, LD_n6, LD_n7, LD_n8, LD_cp, LD_ac, LD_or, LD_oh, h4, jI_le, c_pays]
        rw [if_neg (by omega)]
        exact hn
      · rintro x rfl
        rw [s_24_45, ← rp_eq]
        simp (disch := first | assumption | omega) only [s_24_0, s_24_1, s_24_4, s_24_5, s_24_6, s_24_9, s_24_12, s_24_13, s_24_14, s_24_15, r_24_15, s_24_18, s_24_19, s_24_20, s_24_21, r_24_21, s_24_24, s_24_25, s_24_26, s_24_29, s_24_30, s_24_31, s_24_32, r_24_32, s_24_35, s_24_36, s_24_37, s_24_40, s_24_42, s_24_43, s_24_47, s_24_48, s_24_51, s_24_54, s_24_56, s_24_57, s_24_59, s_24_60, s_24_61, r_24_61, s_24_64, s_24_65, s_24_67, s_24_70, s_24_73, s_24_74, s_24_77, s_24_78, s_24_79, r_24_79, s_24_82, s_24_84, s_24_86, s_24_88, s_24_91, s_24_92, s_24_93, s_24_95, s_24_97, s_24_98, r_24_98, s_24_101, s_24_102, s_24_103, jI_mul, jI_add, jI_tnc, jI_ixT, true_and, and_true, bZ_0, bZ_1, bZ_b, jI_nz, jI_div, jI_rem, jI_mod, Nat.add_zero, bI_if, not_false_iff, if_true, if_false, eq_self, LD_s6, LD_s7, LD_s8, LD_s9, LD_s10, LD_s11, LD_s12, LD_b0, LD_b1, LD_b2, LD_b3, LD_b4, LD_b5, LD_b6, LD_b7, LD_g1, LD_g2, LD_g3, LD_g4, LD_n0, LD_n1, LD_n2, LD_n3, LD_n4, LD_n5, LD_n6, LD_n7, LD_n8, LD_cp, LD_ac, LD_or, LD_oh, h4, jI_le, Nat.le_refl, c_cost]
        by_cases h6 : g 6 + rpSum g nd st nd < jI 2 * g (15 + 10 * st + 1)
        · rw [if_neg (Int32.not_le.mpr h6)]
          simp (disch := first | assumption | omega) only [s_24_0, s_24_1, s_24_4, s_24_5, s_24_6, s_24_9, s_24_12, s_24_13, s_24_14, s_24_15, r_24_15, s_24_18, s_24_19, s_24_20, s_24_21, r_24_21, s_24_24, s_24_25, s_24_26, s_24_29, s_24_30, s_24_31, s_24_32, r_24_32, s_24_35, s_24_36, s_24_37, s_24_40, s_24_42, s_24_43, s_24_47, s_24_48, s_24_51, s_24_54, s_24_56, s_24_57, s_24_59, s_24_60, s_24_61, r_24_61, s_24_64, s_24_65, s_24_67, s_24_70, s_24_73, s_24_74, s_24_77, s_24_78, s_24_79, r_24_79, s_24_82, s_24_84, s_24_86, s_24_88, s_24_91, s_24_92, s_24_93, s_24_95, s_24_97, s_24_98, r_24_98, s_24_101, s_24_102, s_24_103, jI_mul, jI_add, jI_tnc, jI_ixT, true_and, and_true, bZ_0, bZ_1, bZ_b, jI_nz, jI_div, jI_rem, jI_mod, Nat.add_zero, bI_if, not_false_iff, if_true, if_false, eq_self, m_note, LD_urf]
          rw [show jI 2 * g (15 + 10 * st + 1) - (g 6 + rpSum g nd st nd) = jI 2 * g (15 + 10 * st + 1) - g 6 - rpSum g nd st nd from sub_add32 _ _ _]
          exact F4 h2 hz h6
        · rw [if_pos (Int32.not_lt.mp h6)]
          exact H h2 hz h6
/-- paying, one after the other, chest and all -/
def mdS (g : Gr) (nd st n : Nat) : Gr := itN n (fun i z => gu (gu z (75 + 9 * i + 3) (z (75 + 9 * i + 3) - pyS g nd i st)) 6 (z 6 + pyS g nd i st)) g
theorem mdS_at {st n k : Nat} (hn : n ≤ 12) : mdS g nd st n k = if k = 6 then g 6 + rpSum g nd st n else if 75 ≤ k ∧ k < 75 + 9 * n ∧ (k - 75) % 9 = 3 then g k - pyS g nd ((k - 75) / 9) st else g k := by
  induction n generalizing k with
  | zero =>
    by_cases h6 : k = 6
    · rw [if_pos h6, h6]; exact (Int32.add_zero _).symm
    · rw [if_neg h6, if_neg (by omega)]; rfl
  | succ n ih =>
    have e : mdS g nd st (n + 1) = gu (gu (mdS g nd st n) (75 + 9 * n + 3) (mdS g nd st n (75 + 9 * n + 3) - pyS g nd n st)) 6 (mdS g nd st n 6 + pyS g nd n st) := rfl
    have er : rpSum g nd st (n + 1) = rpSum g nd st n + pyS g nd n st := rfl
    rw [e, er]
    by_cases h6 : k = 6
    · subst h6
      rw [gu_at, ih (by omega), if_pos rfl, if_pos rfl, Int32.add_assoc]
    · rw [gu_ne h6, if_neg h6]
      by_cases hk : k = 75 + 9 * n + 3
      · subst hk
        rw [gu_at, ih (by omega), if_neg (by omega), if_neg (by omega), if_pos (by omega), show (75 + 9 * n + 3 - 75) / 9 = n by omega]
      · rw [gu_ne hk, ih (by omega), if_neg h6]
        by_cases hq : 75 ≤ k ∧ k < 75 + 9 * n ∧ (k - 75) % 9 = 3
        · rw [if_pos hq, if_pos (by omega)]
        · rw [if_neg hq, if_neg (by omega)]
theorem pyS_cg {g' : Gr} {st : Nat} (hn : nd ≤ 12) (hs : st < 6) (hi : i < nd) (h1 : g' (15 + 10 * st + 1) = g (15 + 10 * st + 1)) (h2 : ∀ j, j < nd → g' (75 + 9 * j) = g (75 + 9 * j) ∧ g' (75 + 9 * j + 2) = g (75 + 9 * j + 2)) (h3 : g' (75 + 9 * i + 3) = g (75 + 9 * i + 3)) : pyS g' nd i st = pyS g nd i st := by
  unfold pyS ptS
  rw [shS_congr h2, h1, h3, (h2 i hi).1, (h2 i hi).2]
theorem rpPay_at {st n k : Nat} (hnd : nd ≤ 12) (hs : st < 6) (hn : n ≤ nd) : rpPay g nd st n k = if 75 ≤ k ∧ k < 75 + 9 * n ∧ (k - 75) % 9 = 3 then g k - pyS g nd ((k - 75) / 9) st else g k := by
  induction n generalizing k with
  | zero => rw [if_neg (by omega)]; rfl
  | succ n ih =>
    have e : rpPay g nd st (n + 1) = gu (rpPay g nd st n) (75 + 9 * n + 3) (rpPay g nd st n (75 + 9 * n + 3) - pyS (rpPay g nd st n) nd n st) := rfl
    have ep : pyS (rpPay g nd st n) nd n st = pyS g nd n st := pyS_cg hnd hs (by omega) (rpPay_o (fun _ _ => by omega)) (fun j hj => ⟨rpPay_o (fun _ _ => by omega), rpPay_o (fun _ _ => by omega)⟩) (rpPay_o (fun _ _ => by omega))
    rw [e, ep]
    by_cases hk : k = 75 + 9 * n + 3
    · subst hk
      rw [gu_at, ih (by omega), if_neg (by omega), if_pos (by omega), show (75 + 9 * n + 3 - 75) / 9 = n by omega]
    · rw [gu_ne hk, ih (by omega)]
      by_cases hq : 75 ≤ k ∧ k < 75 + 9 * n ∧ (k - 75) % 9 = 3
      · rw [if_pos hq, if_pos (by omega)]
      · rw [if_neg hq, if_neg (by omega)]
theorem c_mend {st : Nat} (ho : DI o) (hng : ng ≤ 6) (hnd : nd ≤ 12) (h4 : g 4 = jI nd) (hQ : QI g ng nd nc) (hs : st < ng) (H : K (.inl none) (MM Ln (LD σ o (repS g nd st) ng nd nc) lo db)) :
    Ev 25 (0, [.ref o, .int (jI st), .null, .null, .null], [], 0, 0, MM Ln (LD σ o g ng nd nc) lo db) K := by
  simp (disch := first | assumption | omega) only [s_25_0, s_25_1, s_25_2, r_25_2, s_25_5, s_25_6, s_25_7, s_25_9, s_25_10, s_25_13, s_25_16, s_25_17, s_25_18, s_25_19, s_25_20, r_25_20, s_25_23, s_25_25, s_25_26, s_25_29, s_25_30, s_25_31, s_25_32, s_25_35, s_25_37, s_25_38, s_25_41, s_25_42, s_25_43, s_25_46, s_25_48, s_25_49, s_25_52, s_25_55, s_25_58, s_25_59, s_25_60, s_25_63, s_25_64, s_25_67, s_25_68, s_25_69, r_25_69, s_25_72, s_25_73, s_25_76, s_25_77, s_25_80, s_25_81, s_25_82, s_25_83, s_25_86, s_25_87, s_25_90, s_25_91, s_25_94, s_25_95, s_25_96, s_25_99, jI_mul, jI_add, jI_tnc, jI_ixT, true_and, and_true, bZ_0, bZ_1, bZ_b, jI_nz, jI_div, jI_rem, jI_mod, Nat.add_zero, bI_if, not_false_iff, if_true, if_false, eq_self, c_sharesF]
  have hQm : ∀ n, n ≤ nd → QI (mdS g nd st n) ng nd nc := by
    intro n
    induction n with
    | zero => exact fun _ => hQ
    | succ n ih => exact fun hn => QI_o (QI_o (ih (by omega)) (by omega)) (by omega)
  refine lup0 nd (fun i x => ∃ s, x = (8, [.ref o, .int (jI st), .int (shS g nd (jI st)), .int (jI i), s], [], 0, 0, MM Ln (LD σ o (mdS g nd st i) ng nd nc) lo db)) ⟨_, rfl⟩ ?_ ?_
  · rintro i x hi ⟨s, rfl⟩ hn
    have hm : ∀ k, k ≠ 6 → ¬ (75 ≤ k ∧ k < 75 + 9 * i ∧ (k - 75) % 9 = 3) → mdS g nd st i k = g k := fun k h1 h2 => by
      rw [mdS_at (by omega), if_neg h1, if_neg h2]
    have e4 := (hm 4 (by omega) (by omega)).trans h4
    have hc : ∀ j, j < nd → mdS g nd st i (75 + 9 * j) = g (75 + 9 * j) ∧ mdS g nd st i (75 + 9 * j + 2) = g (75 + 9 * j + 2) := fun j hj => ⟨hm _ (by omega) (by omega), hm _ (by omega) (by omega)⟩
    have es : shS (mdS g nd st i) nd (jI st) = shS g nd (jI st) := shS_congr hc
    have ep : pyS (mdS g nd st i) nd i st = pyS g nd i st := pyS_cg hnd (by omega) hi (hm _ (by omega) (by omega)) hc (hm _ (by omega) (by omega))
    have hp : ∀ {K : Ou → Me → Prop}, Ev 28 (0, [.ref o, .int (jI i), .int (jI st), .int (shS g nd (jI st))], [], 0, 0, MM Ln (LD σ o (mdS g nd st i) ng nd nc) lo db) K ↔ K (.inl (some (.int (pyS g nd i st)))) (MM Ln (LD σ o (mdS g nd st i) ng nd nc) lo db) := by
      intro K
      have := c_pays (K := K) (Ln := Ln) (σ := σ) (lo := lo) (db := db) (st := st) ho hng hnd (hQm i (by omega)) hi hs
      rw [es, ep] at this
      exact this
    have en : mdS g nd st (i + 1) = gu (gu (mdS g nd st i) (75 + 9 * i + 3) (mdS g nd st i (75 + 9 * i + 3) - pyS g nd i st)) 6 (mdS g nd st i 6 + pyS g nd i st) := rfl
    rw [en] at hn
    rw [s_25_8]
    simp (disch := first | assumption | omega) only [s_25_0, s_25_1, s_25_2, r_25_2, s_25_5, s_25_6, s_25_7, s_25_9, s_25_10, s_25_13, s_25_16, s_25_17, s_25_18, s_25_19, s_25_20, r_25_20, s_25_23, s_25_25, s_25_26, s_25_29, s_25_30, s_25_31, s_25_32, s_25_35, s_25_37, s_25_38, s_25_41, s_25_42, s_25_43, s_25_46, s_25_48, s_25_49, s_25_52, s_25_55, s_25_58, s_25_59, s_25_60, s_25_63, s_25_64, s_25_67, s_25_68, s_25_69, r_25_69, s_25_72, s_25_73, s_25_76, s_25_77, s_25_80, s_25_81, s_25_82, s_25_83, s_25_86, s_25_87, s_25_90, s_25_91, s_25_94, s_25_95, s_25_96, s_25_99, jI_mul, jI_add, jI_tnc, jI_ixT, true_and, and_true, bZ_0, bZ_1, bZ_b, jI_nz, jI_div, jI_rem, jI_mod, Nat.add_zero, bI_if, not_false_iff, if_true, if_false, eq_self, LD_s6, LD_s7, LD_s8, LD_s9, LD_s10, LD_s11, LD_s12, LD_b0, LD_b1, LD_b2, LD_b3, LD_b4, LD_b5, LD_b6, LD_b7, LD_g1, LD_g2, LD_g3, LD_g4, LD_n0, LD_n1, LD_n2, LD_n3, LD_n4, LD_n5, LD_n6, LD_n7, LD_n8, LD_cp, LD_ac, LD_or, LD_oh, LD_us6, LD_us7, LD_us8, LD_us9, LD_us10, LD_us11, LD_us12, LD_ub0, LD_ub1, LD_ub2, LD_ub3, LD_ub4, LD_ub5, LD_ub6, LD_ub7, LD_ug1, LD_ug2, LD_ug3, LD_ug4, LD_un0, LD_un1, LD_un2, LD_un3, LD_un4, LD_un5, LD_un6, LD_un7, LD_un8, LD_uor, LD_uoh, e4, jI_le, hp, gu_ne]
    rw [if_neg (by omega)]
    exact hn _ ⟨_, rfl⟩
  · rintro x ⟨s, rfl⟩
    have e4 : mdS g nd st nd 4 = jI nd := by rw [mdS_at hnd, if_neg (by omega), if_neg (by omega)]; exact h4
    have el : mdS g nd st nd (15 + 10 * st + 1) = g (15 + 10 * st + 1) := by rw [mdS_at hnd, if_neg (by omega), if_neg (by omega)]
    rw [s_25_8]
    simp (disch := first | assumption | omega) only [s_25_0, s_25_1, s_25_2, r_25_2, s_25_5, s_25_6, s_25_7, s_25_9, s_25_10, s_25_13, s_25_16, s_25_17, s_25_18, s_25_19, s_25_20, r_25_20, s_25_23, s_25_25, s_25_26, s_25_29, s_25_30, s_25_31, s_25_32, s_25_35, s_25_37, s_25_38, s_25_41, s_25_42, s_25_43, s_25_46, s_25_48, s_25_49, s_25_52, s_25_55, s_25_58, s_25_59, s_25_60, s_25_63, s_25_64, s_25_67, s_25_68, s_25_69, r_25_69, s_25_72, s_25_73, s_25_76, s_25_77, s_25_80, s_25_81, s_25_82, s_25_83, s_25_86, s_25_87, s_25_90, s_25_91, s_25_94, s_25_95, s_25_96, s_25_99, jI_mul, jI_add, jI_tnc, jI_ixT, true_and, and_true, bZ_0, bZ_1, bZ_b, jI_nz, jI_div, jI_rem, jI_mod, Nat.add_zero, bI_if, not_false_iff, if_true, if_false, eq_self, LD_s6, LD_s7, LD_s8, LD_s9, LD_s10, LD_s11, LD_s12, LD_b0, LD_b1, LD_b2, LD_b3, LD_b4, LD_b5, LD_b6, LD_b7, LD_g1, LD_g2, LD_g3, LD_g4, LD_n0, LD_n1, LD_n2, LD_n3, LD_n4, LD_n5, LD_n6, LD_n7, LD_n8, LD_cp, LD_ac, LD_or, LD_oh, LD_us6, LD_us7, LD_us8, LD_us9, LD_us10, LD_us11, LD_us12, LD_ub0, LD_ub1, LD_ub2, LD_ub3, LD_ub4, LD_ub5, LD_ub6, LD_ub7, LD_ug1, LD_ug2, LD_ug3, LD_ug4, LD_un0, LD_un1, LD_un2, LD_un3, LD_un4, LD_un5, LD_un6, LD_un7, LD_un8, LD_uor, LD_uoh, e4, jI_le, Nat.le_refl, c_cost, gu_ne, el]
    rw [LD_cg (g := repS g nd st) (fun k hk => ?_)]
    · exact H
    · unfold repS
      by_cases k14 : k = 14
      · subst k14
        rw [gu_at, gu_at, gu_ne (by omega), gu_ne (by omega), mdS_at hnd, rpPay_at hnd (by omega) (Nat.le_refl _)]
        simp (disch := omega) only [if_neg]
      · rw [gu_ne k14, gu_ne k14]
        by_cases kl : k = 15 + 10 * st + 1
        · subst kl; rw [gu_at, gu_at]
        · rw [gu_ne kl, gu_ne kl]
          by_cases k6 : k = 6
          · subst k6
            rw [gu_at, gu_at, mdS_at hnd, if_pos rfl, rpPay_at hnd (by omega) (Nat.le_refl _), if_neg (by omega), Int32.sub_eq_add_neg, Int32.sub_eq_add_neg, Int32.add_assoc]
          · rw [gu_ne k6, gu_ne k6, mdS_at hnd, if_neg k6, rpPay_at hnd (by omega) (Nat.le_refl _)]
end
