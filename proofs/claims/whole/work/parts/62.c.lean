/-! THE CLASS: an hour -/
set_option maxRecDepth 16384
section
variable {K : Ou → Me → Prop} {Ln : Nat} {σ : Nat → Nat → Int32} {g : Gr} {lo : Nat → Nat → Int64} {db : Nat → Nat → UInt64} {μ : Me} {oh : Nat → Nat → Bool} {o ng nd nc h : Nat}
theorem gu_comm {a b : Nat} {x y : Int32} (hab : a ≠ b) : gu (gu g a x) b y = gu (gu g b y) a x := by
  funext j
  unfold gu
  by_cases h1 : j = a <;> by_cases h2 : j = b
  · exact absurd (h1.symm.trans h2) hab
  · rw [if_neg h2, if_pos h1, if_pos h1]
  · rw [if_pos h2, if_neg h1, if_pos h2]
  · rw [if_neg h2, if_neg h1, if_neg h1, if_neg h2]
theorem gu_self {a : Nat} : gu g a (g a) = g := by
  funext j
  unfold gu
  by_cases h1 : j = a
  · rw [if_pos h1, h1]
  · rw [if_neg h1]
theorem ahd_cg {g' : Gr} {a b : Nat} (h : ∀ k, 75 ≤ k → k < 183 → g' k = g k) (ha : a < 12) (hb : b < 12) : ahd g' a b ↔ ahd g a b := by
  unfold ahd
  rw [h (75 + 9 * a + 4) (by omega) (by omega), h (75 + 9 * b + 4) (by omega) (by omega), h (75 + 9 * a + 2) (by omega) (by omega), h (75 + 9 * b + 2) (by omega) (by omega)]
theorem insL_cg {g' : Gr} {k c : Nat} (h : ∀ k, 75 ≤ k → k < 183 → g' k = g k) (hk : k < 12) : ∀ (p : Nat) (r : Nat → Nat), p ≤ c → (∀ j, j ≤ c → j ≠ p → r j < 12) → insL g' k r p = insL g k r p
  | 0, r, _, _ => rfl
  | p + 1, r, hp, hr => by
    unfold insL
    have := hr p (by omega) (by omega)
    by_cases ha : ahd g k (r p)
    · rw [if_pos ha, if_pos ((ahd_cg h hk this).mpr ha)]
      refine insL_cg (c := c) h hk p _ (by omega) (fun j hj hne => ?_)
      by_cases hj1 : j = p + 1
      · rw [if_pos hj1]; exact this
      · rw [if_neg hj1]; exact hr j hj hj1
    · rw [if_neg ha, if_neg (fun e => ha ((ahd_cg h hk this).mp e))]
theorem insR_cg {g' : Gr} {n : Nat} {rc : (Nat → Nat) × Nat} (h : ∀ k, 75 ≤ k → k < 183 → g' k = g k) (hn : n < 12) (hr : ∀ j, j < rc.2 → rc.1 j < 12) : insR g' n rc = insR g n rc := by
  unfold insR
  rw [insL_cg (c := rc.2) h hn _ _ (Nat.le_refl _) (fun j hj hne => hr j (by omega))]
theorem ordS_s {gt : Int32} {n : Nat} : ordS g gt (n + 1) = if g (75 + 9 * n) = gt then insR g n (ordS g gt n) else ordS g gt n := rfl
theorem if_cg {α : Type} {a b c : Int32} {x y : α} (h : a = b) : (if a = c then x else y) = if b = c then x else y := by rw [h]
theorem ordS_cg {g' : Gr} {gt : Int32} (h : ∀ k, 75 ≤ k → k < 183 → g' k = g k) : ∀ n, n ≤ 12 → ordS g' gt n = ordS g gt n := by
  intro n
  induction n with
  | zero =>
    intro _
    have z : ∀ g : Gr, ordS g gt 0 = ((fun _ => 0), 0) := fun _ => rfl
    rw [z, z]
  | succ n ih =>
    intro hn
    have hl := ordS_lt (g := g) (gt := gt) n
    rw [ordS_s, ordS_s, ih (by omega), insR_cg h (by omega) (fun j hj => by have := hl.2 j hj; omega)]
    exact if_cg (h _ (Nat.le_add_right _ _) (by omega))
theorem watStep_gu {r : Nat → Nat} {i c : Nat} {v w : Int32} (hc : c < 75) (h9 : c ≠ 9) : watStep r i (gu g c v, w) = (gu (watStep r i (g, w)).1 c v, (watStep r i (g, w)).2) := by
  have e : drS (gu g c v) (r i) w = drS g (r i) w := by
    unfold drS
    rw [gu_ne (by omega), gu_ne (by omega)]
  unfold watStep
  dsimp only
  rw [e]
  generalize drS g (r i) w = n
  simp (disch := omega) only [gu_ne]
  rw [gu_comm (a := c) (by omega), gu_comm (a := c) (by omega), gu_comm (a := c) (by omega)]
theorem watN_gu {r : Nat → Nat} {n c : Nat} {v w : Int32} (hc : c < 75) (h9 : c ≠ 9) : itN n (watStep r) (gu g c v, w) = (gu (itN n (watStep r) (g, w)).1 c v, (itN n (watStep r) (g, w)).2) := by
  induction n with
  | zero => rfl
  | succ n ih =>
    rw [itN_succ, ih, watStep_gu hc h9]
    rfl
theorem watN_lo {r : Nat → Nat} {n c : Nat} {z : Gr × Int32} (hc : c < 75) (h9 : c ≠ 9) : (itN n (watStep r) z).1 c = z.1 c := by
  induction n with
  | zero => rfl
  | succ n ih =>
    rw [itN_succ, ← ih]
    unfold watStep
    simp (disch := omega) only [gu_ne]
theorem dwn_eq {hw i : Nat} {z : Gr × Int32} (hi : i < 6) (hnd : nd ≤ 12) (ho : oh i hw = true) : dwnStep oh hw nd i z =
    (let lk := (z.2 * z.1 (15 + 10 * i + 1) + jI 99) / jI 100
     let g1 := gu z.1 8 (z.1 8 + lk)
     let l1 := z.2 - lk
     let tk := mn (g1 (15 + 10 * i)) l1
     let w := itN (ordS g1 (jI i) nd).2 (watStep (ordS g1 (jI i) nd).1) (g1, tk)
     let g2 := gu w.1 (15 + 10 * i + 2) (w.1 (15 + 10 * i + 2) + tk)
     (gu g2 (15 + 10 * i + 3) (g2 (15 + 10 * i + 3) + w.2), l1 + (w.2 - tk))) := by
  have e99 : ∀ x : Int32, x + jI 100 - jI 1 = x + jI 99 := fun x => by
    rw [Int32.sub_eq_add_neg, Int32.add_assoc]; rfl
  unfold dwnStep
  dsimp only
  rw [if_pos ho, e99]
  generalize gu z.1 8 (z.1 8 + (z.2 * z.1 (15 + 10 * i + 1) + jI 99) / jI 100) = g1
  generalize z.2 - (z.2 * z.1 (15 + 10 * i + 1) + jI 99) / jI 100 = l1
  unfold watS
  dsimp only
  rw [ordS_cg (g := g1) (fun k h1 h2 => gu_ne (by omega)) nd hnd, watN_gu (by omega) (by omega)]
  dsimp only
  rw [watN_lo (c := 15 + 10 * i + 2) (by omega) (by omega)]
theorem dwn_no {hw i : Nat} {z : Gr × Int32} (ho : ¬ oh i hw = true) : dwnStep oh hw nd i z =
    (let lk := (z.2 * z.1 (15 + 10 * i + 1) + jI 99) / jI 100
     (gu z.1 8 (z.1 8 + lk), z.2 - lk)) := by
  have e99 : ∀ x : Int32, x + jI 100 - jI 1 = x + jI 99 := fun x => by
    rw [Int32.sub_eq_add_neg, Int32.add_assoc]; rfl
  unfold dwnStep
  dsimp only
  rw [if_neg ho, e99]
theorem c_openIn {i h : Nat} (ho : DI o) (hng : ng ≤ 6) (hi : i < ng) (hO : OHc σ o ng oh) (hh : h < 2147483648) : Ev 52 (0, [.ref (gA o i), .int (jI h), .null, .null], [], 0, 0, MM Ln (LD σ o g ng nd nc) lo db) K ↔ K (.inl (some (.int (bI (oh i (h % 168) = true))))) (MM Ln (LD σ o g ng nd nc) lo db) := by
  have hb := (hO i hi).1 (h % 168) (by omega)
  have hbt := bt_on (x := σ (ohA o i) (h % 168 / 24)) (q := h % 168 % 24) (r := h % 168 % 24) (by omega) (by omega)
  rw [hb] at hbt
  simp (disch := first | assumption | omega) only [s_52_0, s_52_1, s_52_4, r_52_4, s_52_7, s_52_8, s_52_9, s_52_10, s_52_12, s_52_13, s_52_14, s_52_15, s_52_16, s_52_19, s_52_20, s_52_22, s_52_23, s_52_24, s_52_25, s_52_26, s_52_29, s_52_30, s_52_33, s_52_34, jI_mul, jI_add, jI_tnc, jI_ixT, true_and, and_true, bZ_0, bZ_1, bZ_b, jI_nz, jI_div, jI_rem, jI_mod, Nat.add_zero, bI_if, not_false_iff, if_true, if_false, eq_self, m_floorMod, LD_oh, hbt]
  unfold bI
  by_cases hq : oh i (h % 168) = true
  · rw [if_neg (by rw [hq]; decide), if_pos hq]
  · rw [if_pos (by simpa using hq), if_neg hq]
theorem c_down {w : Int32} (ho : DI o) (hng : ng ≤ 6) (hnd : nd ≤ 12) (h3 : g 3 = jI ng) (h4 : g 4 = jI nd) (h0 : g 0 = jI h) (hh : h < 2147483648) (hO : OHc σ o ng oh)
    (H : ∀ σ', Fc o σ σ' → K (.inl (some (.int (itN ng (dwnStep oh (h % 168) nd) (g, w)).2))) (MM Ln (LD σ' o (itN ng (dwnStep oh (h % 168) nd) (g, w)).1 ng nd nc) lo db)) :
    Ev 14 (0, [.ref o, .int w, .null, .null, .null, .null, .null, .null], [], 0, 0, MM Ln (LD σ o g ng nd nc) lo db) K := by
  simp (disch := first | assumption | omega) only [s_14_0, s_14_1, s_14_2, s_14_3, s_14_5, s_14_6, s_14_9, s_14_12, s_14_13, s_14_16, s_14_17, s_14_18, s_14_20, s_14_21, s_14_23, s_14_26, s_14_27, s_14_29, s_14_30, s_14_32, s_14_33, s_14_35, s_14_36, s_14_39, s_14_40, s_14_43, s_14_45, s_14_46, s_14_49, s_14_50, s_14_52, s_14_53, s_14_54, s_14_56, s_14_57, s_14_60, r_14_60, s_14_63, s_14_66, s_14_68, s_14_71, s_14_72, r_14_72, s_14_75, s_14_77, s_14_78, s_14_79, s_14_81, r_14_81, s_14_84, s_14_86, s_14_88, s_14_89, s_14_92, s_14_94, s_14_95, s_14_98, s_14_100, s_14_101, s_14_104, s_14_106, s_14_107, s_14_110, s_14_111, s_14_113, s_14_115, s_14_116, s_14_117, s_14_118, s_14_121, s_14_124, s_14_125, jI_mul, jI_add, jI_tnc, jI_ixT, true_and, and_true, bZ_0, bZ_1, bZ_b, jI_nz, jI_div, jI_rem, jI_mod, Nat.add_zero, bI_if, not_false_iff, if_true, if_false, eq_self]
  refine lup0 ng (fun i x => ∃ σ' s1 s2 s3 s4, x = (4, [.ref o, .int w, .int (itN i (dwnStep oh (h % 168) nd) (g, w)).2, .int (jI i), s1, s2, s3, s4], [], 0, 0, MM Ln (LD σ' o (itN i (dwnStep oh (h % 168) nd) (g, w)).1 ng nd nc) lo db) ∧ Fc o σ σ') ⟨_, _, _, _, _, rfl, Fc.refl⟩ ?_ ?_
  · rintro i x hi ⟨σ', s1, s2, s3, s4, rfl, f1⟩ hn
    have hf : ∀ k, Fx k → (itN i (dwnStep oh (h % 168) nd) (g, w)).1 k = g k := fun k hk => dwn_fx hk
    have e3 := (hf 3 (Or.inl (by omega))).trans h3
    have e4 := (hf 4 (Or.inl (by omega))).trans h4
    have e0 := (hf 0 (Or.inl (by omega))).trans h0
    have hO' := f1.toOH hO
    have en : itN (i + 1) (dwnStep oh (h % 168) nd) (g, w) = dwnStep oh (h % 168) nd i (itN i (dwnStep oh (h % 168) nd) (g, w)) := rfl
    generalize itN i (dwnStep oh (h % 168) nd) (g, w) = z at *
    rw [en] at hn
    rw [s_14_4]
    simp (disch := first | assumption | omega) only [s_14_0, s_14_1, s_14_2, s_14_3, s_14_5, s_14_6, s_14_9, s_14_12, s_14_13, s_14_16, s_14_17, s_14_18, s_14_20, s_14_21, s_14_23, s_14_26, s_14_27, s_14_29, s_14_30, s_14_32, s_14_33, s_14_35, s_14_36, s_14_39, s_14_40, s_14_43, s_14_45, s_14_46, s_14_49, s_14_50, s_14_52, s_14_53, s_14_54, s_14_56, s_14_57, s_14_60, r_14_60, s_14_63, s_14_66, s_14_68, s_14_71, s_14_72, r_14_72, s_14_75, s_14_77, s_14_78, s_14_79, s_14_81, r_14_81, s_14_84, s_14_86, s_14_88, s_14_89, s_14_92, s_14_94, s_14_95, s_14_98, s_14_100, s_14_101, s_14_104, s_14_106, s_14_107, s_14_110, s_14_111, s_14_113, s_14_115, s_14_116, s_14_117, s_14_118, s_14_121, s_14_124, s_14_125, jI_mul, jI_add, jI_tnc, jI_ixT, true_and, and_true, bZ_0, bZ_1, bZ_b, jI_nz, jI_div, jI_rem, jI_mod, Nat.add_zero, bI_if, not_false_iff, if_true, if_false, eq_self, LD_s6, LD_s7, LD_s8, LD_s9, LD_s10, LD_s11, LD_s12, LD_b0, LD_b1, LD_b2, LD_b3, LD_b4, LD_b5, LD_b6, LD_b7, LD_g1, LD_g2, LD_g3, LD_g4, LD_n0, LD_n1, LD_n2, LD_n3, LD_n4, LD_n5, LD_n6, LD_n7, LD_n8, LD_cp, LD_ac, LD_or, LD_oh, e3, jI_le]
    rw [if_neg (by omega)]
    simp (disch := first | assumption | omega) only [s_14_0, s_14_1, s_14_2, s_14_3, s_14_5, s_14_6, s_14_9, s_14_12, s_14_13, s_14_16, s_14_17, s_14_18, s_14_20, s_14_21, s_14_23, s_14_26, s_14_27, s_14_29, s_14_30, s_14_32, s_14_33, s_14_35, s_14_36, s_14_39, s_14_40, s_14_43, s_14_45, s_14_46, s_14_49, s_14_50, s_14_52, s_14_53, s_14_54, s_14_56, s_14_57, s_14_60, r_14_60, s_14_63, s_14_66, s_14_68, s_14_71, s_14_72, r_14_72, s_14_75, s_14_77, s_14_78, s_14_79, s_14_81, r_14_81, s_14_84, s_14_86, s_14_88, s_14_89, s_14_92, s_14_94, s_14_95, s_14_98, s_14_100, s_14_101, s_14_104, s_14_106, s_14_107, s_14_110, s_14_111, s_14_113, s_14_115, s_14_116, s_14_117, s_14_118, s_14_121, s_14_124, s_14_125, jI_mul, jI_add, jI_tnc, jI_ixT, true_and, and_true, bZ_0, bZ_1, bZ_b, jI_nz, jI_div, jI_rem, jI_mod, Nat.add_zero, bI_if, not_false_iff, if_true, if_false, eq_self, LD_s6, LD_s7, LD_s8, LD_s9, LD_s10, LD_s11, LD_s12, LD_b0, LD_b1, LD_b2, LD_b3, LD_b4, LD_b5, LD_b6, LD_b7, LD_g1, LD_g2, LD_g3, LD_g4, LD_n0, LD_n1, LD_n2, LD_n3, LD_n4, LD_n5, LD_n6, LD_n7, LD_n8, LD_cp, LD_ac, LD_or, LD_oh, LD_us6, LD_us7, LD_us8, LD_us9, LD_us10, LD_us11, LD_us12, LD_ub0, LD_ub1, LD_ub2, LD_ub3, LD_ub4, LD_ub5, LD_ub6, LD_ub7, LD_ug1, LD_ug2, LD_ug3, LD_ug4, LD_un0, LD_un1, LD_un2, LD_un3, LD_un4, LD_un5, LD_un6, LD_un7, LD_un8, LD_uor, LD_uoh, gu_ne, e0, c_openIn ho hng hi hO' hh, bI_if]
    by_cases hq : oh i (h % 168) = true
    · rw [dwn_eq (by omega) hnd hq] at hn
      dsimp only at hn
      simp (disch := first | assumption | omega) only [if_pos hq, s_14_0, s_14_1, s_14_2, s_14_3, s_14_5, s_14_6, s_14_9, s_14_12, s_14_13, s_14_16, s_14_17, s_14_18, s_14_20, s_14_21, s_14_23, s_14_26, s_14_27, s_14_29, s_14_30, s_14_32, s_14_33, s_14_35, s_14_36, s_14_39, s_14_40, s_14_43, s_14_45, s_14_46, s_14_49, s_14_50, s_14_52, s_14_53, s_14_54, s_14_56, s_14_57, s_14_60, r_14_60, s_14_63, s_14_66, s_14_68, s_14_71, s_14_72, r_14_72, s_14_75, s_14_77, s_14_78, s_14_79, s_14_81, r_14_81, s_14_84, s_14_86, s_14_88, s_14_89, s_14_92, s_14_94, s_14_95, s_14_98, s_14_100, s_14_101, s_14_104, s_14_106, s_14_107, s_14_110, s_14_111, s_14_113, s_14_115, s_14_116, s_14_117, s_14_118, s_14_121, s_14_124, s_14_125, jI_mul, jI_add, jI_tnc, jI_ixT, true_and, and_true, bZ_0, bZ_1, bZ_b, jI_nz, jI_div, jI_rem, jI_mod, Nat.add_zero, bI_if, not_false_iff, if_true, if_false, eq_self, LD_s6, LD_s7, LD_s8, LD_s9, LD_s10, LD_s11, LD_s12, LD_b0, LD_b1, LD_b2, LD_b3, LD_b4, LD_b5, LD_b6, LD_b7, LD_g1, LD_g2, LD_g3, LD_g4, LD_n0, LD_n1, LD_n2, LD_n3, LD_n4, LD_n5, LD_n6, LD_n7, LD_n8, LD_cp, LD_ac, LD_or, LD_oh, LD_us6, LD_us7, LD_us8, LD_us9, LD_us10, LD_us11, LD_us12, LD_ub0, LD_ub1, LD_ub2, LD_ub3, LD_ub4, LD_ub5, LD_ub6, LD_ub7, LD_ug1, LD_ug2, LD_ug3, LD_ug4, LD_un0, LD_un1, LD_un2, LD_un3, LD_un4, LD_un5, LD_un6, LD_un7, LD_un8, LD_uor, LD_uoh, gu_ne, m_min]
      refine c_waterN ho hng (by omega) hnd (by simp (disch := omega) only [gu_ne]; exact e4) ?_
      intro σ'' f2
      simp (disch := first | assumption | omega) only [s_14_0, s_14_1, s_14_2, s_14_3, s_14_5, s_14_6, s_14_9, s_14_12, s_14_13, s_14_16, s_14_17, s_14_18, s_14_20, s_14_21, s_14_23, s_14_26, s_14_27, s_14_29, s_14_30, s_14_32, s_14_33, s_14_35, s_14_36, s_14_39, s_14_40, s_14_43, s_14_45, s_14_46, s_14_49, s_14_50, s_14_52, s_14_53, s_14_54, s_14_56, s_14_57, s_14_60, r_14_60, s_14_63, s_14_66, s_14_68, s_14_71, s_14_72, r_14_72, s_14_75, s_14_77, s_14_78, s_14_79, s_14_81, r_14_81, s_14_84, s_14_86, s_14_88, s_14_89, s_14_92, s_14_94, s_14_95, s_14_98, s_14_100, s_14_101, s_14_104, s_14_106, s_14_107, s_14_110, s_14_111, s_14_113, s_14_115, s_14_116, s_14_117, s_14_118, s_14_121, s_14_124, s_14_125, jI_mul, jI_add, jI_tnc, jI_ixT, true_and, and_true, bZ_0, bZ_1, bZ_b, jI_nz, jI_div, jI_rem, jI_mod, Nat.add_zero, bI_if, not_false_iff, if_true, if_false, eq_self, LD_s6, LD_s7, LD_s8, LD_s9, LD_s10, LD_s11, LD_s12, LD_b0, LD_b1, LD_b2, LD_b3, LD_b4, LD_b5, LD_b6, LD_b7, LD_g1, LD_g2, LD_g3, LD_g4, LD_n0, LD_n1, LD_n2, LD_n3, LD_n4, LD_n5, LD_n6, LD_n7, LD_n8, LD_cp, LD_ac, LD_or, LD_oh, LD_us6, LD_us7, LD_us8, LD_us9, LD_us10, LD_us11, LD_us12, LD_ub0, LD_ub1, LD_ub2, LD_ub3, LD_ub4, LD_ub5, LD_ub6, LD_ub7, LD_ug1, LD_ug2, LD_ug3, LD_ug4, LD_un0, LD_un1, LD_un2, LD_un3, LD_un4, LD_un5, LD_un6, LD_un7, LD_un8, LD_uor, LD_uoh, gu_ne]
      simp (disch := first | assumption | omega) only [gu_ne] at hn
      exact hn _ ⟨_, _, _, _, _, rfl, f1.trans f2⟩
    · rw [dwn_no hq] at hn
      rw [if_neg hq]
      try simp (disch := first | assumption | omega) only [s_14_0, s_14_1, s_14_2, s_14_3, s_14_5, s_14_6, s_14_9, s_14_12, s_14_13, s_14_16, s_14_17, s_14_18, s_14_20, s_14_21, s_14_23, s_14_26, s_14_27, s_14_29, s_14_30, s_14_32, s_14_33, s_14_35, s_14_36, s_14_39, s_14_40, s_14_43, s_14_45, s_14_46, s_14_49, s_14_50, s_14_52, s_14_53, s_14_54, s_14_56, s_14_57, s_14_60, r_14_60, s_14_63, s_14_66, s_14_68, s_14_71, s_14_72, r_14_72, s_14_75, s_14_77, s_14_78, s_14_79, s_14_81, r_14_81, s_14_84, s_14_86, s_14_88, s_14_89, s_14_92, s_14_94, s_14_95, s_14_98, s_14_100, s_14_101, s_14_104, s_14_106, s_14_107, s_14_110, s_14_111, s_14_113, s_14_115, s_14_116, s_14_117, s_14_118, s_14_121, s_14_124, s_14_125, jI_mul, jI_add, jI_tnc, jI_ixT, true_and, and_true, bZ_0, bZ_1, bZ_b, jI_nz, jI_div, jI_rem, jI_mod, Nat.add_zero, bI_if, not_false_iff, if_true, if_false, eq_self]
      exact hn _ ⟨_, _, _, _, _, rfl, f1⟩
  · rintro x ⟨σ', s1, s2, s3, s4, rfl, f1⟩
    have e3 := (dwn_fx (oh := oh) (hw := h % 168) (nd := nd) (n := ng) (z := (g, w)) (k := 3) (Or.inl (by omega))).trans h3
    rw [s_14_4]
    simp (disch := first | assumption | omega) only [s_14_0, s_14_1, s_14_2, s_14_3, s_14_5, s_14_6, s_14_9, s_14_12, s_14_13, s_14_16, s_14_17, s_14_18, s_14_20, s_14_21, s_14_23, s_14_26, s_14_27, s_14_29, s_14_30, s_14_32, s_14_33, s_14_35, s_14_36, s_14_39, s_14_40, s_14_43, s_14_45, s_14_46, s_14_49, s_14_50, s_14_52, s_14_53, s_14_54, s_14_56, s_14_57, s_14_60, r_14_60, s_14_63, s_14_66, s_14_68, s_14_71, s_14_72, r_14_72, s_14_75, s_14_77, s_14_78, s_14_79, s_14_81, r_14_81, s_14_84, s_14_86, s_14_88, s_14_89, s_14_92, s_14_94, s_14_95, s_14_98, s_14_100, s_14_101, s_14_104, s_14_106, s_14_107, s_14_110, s_14_111, s_14_113, s_14_115, s_14_116, s_14_117, s_14_118, s_14_121, s_14_124, s_14_125, jI_mul, jI_add, jI_tnc, jI_ixT, true_and, and_true, bZ_0, bZ_1, bZ_b, jI_nz, jI_div, jI_rem, jI_mod, Nat.add_zero, bI_if, not_false_iff, if_true, if_false, eq_self, LD_s6, LD_s7, LD_s8, LD_s9, LD_s10, LD_s11, LD_s12, LD_b0, LD_b1, LD_b2, LD_b3, LD_b4, LD_b5, LD_b6, LD_b7, LD_g1, LD_g2, LD_g3, LD_g4, LD_n0, LD_n1, LD_n2, LD_n3, LD_n4, LD_n5, LD_n6, LD_n7, LD_n8, LD_cp, LD_ac, LD_or, LD_oh, e3, jI_le, Nat.le_refl]
    exact H σ' f1
/-- what a cell's number can be -/
def QC (ng nd nc c : Nat) (v : Int32) : Prop :=
  if 15 ≤ c ∧ c < 75 ∧ c < 15 + 10 * ng ∧ (c - 15) % 10 = 0 then ∃ w, w ≤ 60 ∧ v = jI w
  else if 15 ≤ c ∧ c < 75 ∧ c < 15 + 10 * ng ∧ (c - 15) % 10 = 1 then ∃ l, l ≤ 50 ∧ v = jI l
  else if 75 ≤ c ∧ c < 75 + 9 * nd ∧ (c - 75) % 9 = 0 then ∃ k, k < ng ∧ v = jI k
  else if 75 ≤ c ∧ c < 75 + 9 * nd ∧ (c - 75) % 9 = 1 then ∃ b, b ≤ 20 ∧ v = jI b
  else if 75 ≤ c ∧ c < 75 + 9 * nd ∧ (c - 75) % 9 = 2 then ∃ s, 1 ≤ s ∧ s ≤ 9 ∧ v = jI s
  else if 75 ≤ c ∧ c < 75 + 9 * nd ∧ (c - 75) % 9 = 4 then ∃ t, t ≤ 99 ∧ v = jI t
  else if 75 ≤ c ∧ c < 75 + 9 * nd ∧ (c - 75) % 9 = 5 then bZ v
  else if 75 ≤ c ∧ c < 75 + 9 * nd ∧ (c - 75) % 9 = 8 then v = jm1 ∨ jI 0 ≤ v
  else if 183 ≤ c ∧ c < 183 + 2 * nc then ∃ a, a < nd ∧ v = jI a
  else True
def QI (g : Gr) (ng nd nc : Nat) : Prop := ∀ c, QC ng nd nc c (g c)
theorem QI_gu {c : Nat} {v : Int32} (h : QI g ng nd nc) (hv : QC ng nd nc c v) : QI (gu g c v) ng nd nc := by
  intro j
  unfold gu
  by_cases hj : j = c
  · rw [if_pos hj, hj]; exact hv
  · rw [if_neg hj]; exact h j
theorem QC_o {c : Nat} {v : Int32} (hc : c < 15 ∨ (15 ≤ c ∧ c < 75 ∧ 2 ≤ (c - 15) % 10) ∨ (75 ≤ c ∧ c < 183 ∧ ((c - 75) % 9 = 3 ∨ (c - 75) % 9 = 6 ∨ (c - 75) % 9 = 7))) : QC ng nd nc c v := by
  unfold QC
  rw [if_neg (by omega), if_neg (by omega), if_neg (by omega), if_neg (by omega), if_neg (by omega), if_neg (by omega), if_neg (by omega), if_neg (by omega), if_neg (by omega)]
  trivial
theorem QI_o {c : Nat} {v : Int32} (h : QI g ng nd nc) (hc : c < 15 ∨ (15 ≤ c ∧ c < 75 ∧ 2 ≤ (c - 15) % 10) ∨ (75 ≤ c ∧ c < 183 ∧ ((c - 75) % 9 = 3 ∨ (c - 75) % 9 = 6 ∨ (c - 75) % 9 = 7))) : QI (gu g c v) ng nd nc := QI_gu h (QC_o hc)
section
variable {i : Nat}
theorem QC_w (hng : ng ≤ 6) (hi : i < ng) {v : Int32} : QC ng nd nc (15 + 10 * i) v ↔ ∃ w, w ≤ 60 ∧ v = jI w := by unfold QC; rw [if_pos (by omega)]
theorem QC_l (hng : ng ≤ 6) (hi : i < ng) {v : Int32} : QC ng nd nc (15 + 10 * i + 1) v ↔ ∃ l, l ≤ 50 ∧ v = jI l := by unfold QC; rw [if_neg (by omega), if_pos (by omega)]
theorem QC_0 (hng : ng ≤ 6) (hi : i < nd) {v : Int32} : QC ng nd nc (75 + 9 * i) v ↔ ∃ k, k < ng ∧ v = jI k := by unfold QC; rw [if_neg (by omega), if_neg (by omega), if_pos (by omega)]
theorem QC_1 (hng : ng ≤ 6) (hi : i < nd) {v : Int32} : QC ng nd nc (75 + 9 * i + 1) v ↔ ∃ b, b ≤ 20 ∧ v = jI b := by unfold QC; rw [if_neg (by omega), if_neg (by omega), if_neg (by omega), if_pos (by omega)]
theorem QC_2 (hng : ng ≤ 6) (hi : i < nd) {v : Int32} : QC ng nd nc (75 + 9 * i + 2) v ↔ ∃ s, 1 ≤ s ∧ s ≤ 9 ∧ v = jI s := by unfold QC; rw [if_neg (by omega), if_neg (by omega), if_neg (by omega), if_neg (by omega), if_pos (by omega)]
theorem QC_4 (hng : ng ≤ 6) (hi : i < nd) {v : Int32} : QC ng nd nc (75 + 9 * i + 4) v ↔ ∃ t, t ≤ 99 ∧ v = jI t := by unfold QC; rw [if_neg (by omega), if_neg (by omega), if_neg (by omega), if_neg (by omega), if_neg (by omega), if_pos (by omega)]
theorem QC_5 (hng : ng ≤ 6) (hi : i < nd) {v : Int32} : QC ng nd nc (75 + 9 * i + 5) v ↔ bZ v := by unfold QC; rw [if_neg (by omega), if_neg (by omega), if_neg (by omega), if_neg (by omega), if_neg (by omega), if_neg (by omega), if_pos (by omega)]
theorem QC_8 (hng : ng ≤ 6) (hi : i < nd) {v : Int32} : QC ng nd nc (75 + 9 * i + 8) v ↔ (v = jm1 ∨ jI 0 ≤ v) := by unfold QC; rw [if_neg (by omega), if_neg (by omega), if_neg (by omega), if_neg (by omega), if_neg (by omega), if_neg (by omega), if_neg (by omega), if_pos (by omega)]
theorem QC_c (hng : ng ≤ 6) (hnd : nd ≤ 12) (h1 : 183 ≤ i) (h2 : i < 183 + 2 * nc) {v : Int32} : QC ng nd nc i v ↔ ∃ a, a < nd ∧ v = jI a := by unfold QC; rw [if_neg (by omega), if_neg (by omega), if_neg (by omega), if_neg (by omega), if_neg (by omega), if_neg (by omega), if_neg (by omega), if_neg (by omega), if_pos (by omega)]
end
theorem mn_jI {a b : Nat} (ha : a < 2147483648) (hb : b < 2147483648) : mn (jI a) (jI b) = jI (min a b) := by
  unfold mn
  by_cases h : a < b
  · rw [if_pos ((jI_lt ha hb).mpr h)]; congr 1; omega
  · rw [if_neg (fun e => h ((jI_lt ha hb).mp e))]; congr 1; omega
theorem dr_ty {i w : Nat} (hng : ng ≤ 6) (hQ : QI g ng nd nc) (hi : i < nd) (hw : w < 100000) : ∃ n t, n ≤ w ∧ n ≤ t ∧ t ≤ 99 ∧ drS g i (jI w) = jI n ∧ g (75 + 9 * i + 4) = jI t := by
  obtain ⟨b, hb, e1⟩ := (QC_1 hng hi).mp (hQ (75 + 9 * i + 1))
  obtain ⟨t, ht, e2⟩ := (QC_4 hng hi).mp (hQ (75 + 9 * i + 4))
  refine ⟨min w (min (3 * b) t), t, by omega, by omega, ht, ?_, e2⟩
  unfold drS
  rw [e1, e2, jI_mul, mn_jI (by omega) (by omega), mn_jI (by omega) (by omega)]
theorem thv_ty {i w h : Nat} {z : Gr × Int32} (hng : ng ≤ 6) (hnd : nd ≤ 12) (hQ : QI z.1 ng nd nc) (hi : i < nd) (hw : w < 100000) (hh : h < 2147483648) (e : z.2 = jI w) : QI (thvStep (jI h) i z).1 ng nd nc ∧ ∃ w', w' ≤ w ∧ (thvStep (jI h) i z).2 = jI w' := by
  obtain ⟨n, t, q1, q2, q3, q4, q5⟩ := dr_ty hng hQ hi hw
  unfold thvStep
  by_cases h1 : z.1 (75 + 9 * i + 5) = jI 0
  · rw [if_pos h1]; exact ⟨hQ, w, Nat.le_refl _, e⟩
  · rw [if_neg h1]
    dsimp only
    rw [e, q4]
    refine ⟨?_, w - n, by omega, jI_sub q1⟩
    have Q1 : QI (gu z.1 (75 + 9 * i + 4) (z.1 (75 + 9 * i + 4) - jI n)) ng nd nc := QI_gu hQ ((QC_4 hng hi).mpr ⟨t - n, by omega, by rw [q5, jI_sub q2]⟩)
    by_cases h2 : jI 0 < jI n
    · rw [if_pos h2]
      refine QI_o (QI_o (QI_gu Q1 ((QC_8 hng hi).mpr (Or.inr ?_))) (by omega)) (by omega)
      rw [jI_le (by decide) hh]; omega
    · rw [if_neg h2]
      exact QI_o (QI_o Q1 (by omega)) (by omega)
theorem thvN_ty {w h : Nat} {z : Gr × Int32} (hng : ng ≤ 6) (hnd : nd ≤ 12) (hQ : QI z.1 ng nd nc) (hw : w < 100000) (hh : h < 2147483648) (e : z.2 = jI w) : ∀ n, n ≤ nd → QI (itN n (thvStep (jI h)) z).1 ng nd nc ∧ ∃ w', w' ≤ w ∧ (itN n (thvStep (jI h)) z).2 = jI w'
  | 0, _ => ⟨hQ, w, Nat.le_refl _, e⟩
  | n + 1, hn => by
    obtain ⟨t1, w1, q1, e1⟩ := thvN_ty hng hnd hQ hw hh e n (by omega)
    obtain ⟨t2, w2, q2, e2⟩ := thv_ty hng hnd t1 (i := n) (by omega) (w := w1) (by omega) hh e1
    exact ⟨t2, w2, by omega, e2⟩
theorem wat_ty {i w : Nat} {r : Nat → Nat} {z : Gr × Int32} (hng : ng ≤ 6) (hnd : nd ≤ 12) (hQ : QI z.1 ng nd nc) (hi : r i < nd) (hw : w < 100000) (e : z.2 = jI w) : QI (watStep r i z).1 ng nd nc ∧ ∃ w', w' ≤ w ∧ (watStep r i z).2 = jI w' := by
  obtain ⟨n, t, q1, q2, q3, q4, q5⟩ := dr_ty hng hQ hi hw
  unfold watStep
  dsimp only
  rw [e, q4]
  refine ⟨?_, w - n, by omega, jI_sub q1⟩
  have Q1 : QI (gu z.1 (75 + 9 * r i + 4) (z.1 (75 + 9 * r i + 4) - jI n)) ng nd nc := QI_gu hQ ((QC_4 hng hi).mpr ⟨t - n, by omega, by rw [q5, jI_sub q2]⟩)
  exact QI_o (QI_o Q1 (by omega)) (by omega)
theorem watN_ty {w : Nat} {r : Nat → Nat} {z : Gr × Int32} (hng : ng ≤ 6) (hnd : nd ≤ 12) (hQ : QI z.1 ng nd nc) (hw : w < 100000) (e : z.2 = jI w) : ∀ n, (∀ i, i < n → r i < nd) → QI (itN n (watStep r) z).1 ng nd nc ∧ ∃ w', w' ≤ w ∧ (itN n (watStep r) z).2 = jI w'
  | 0, _ => ⟨hQ, w, Nat.le_refl _, e⟩
  | n + 1, hr => by
    obtain ⟨t1, w1, q1, e1⟩ := watN_ty hng hnd hQ hw e n (fun i hi => hr i (by omega))
    obtain ⟨t2, w2, q2, e2⟩ := wat_ty hng hnd t1 (i := n) (hr n (by omega)) (w := w1) (by omega) e1
    exact ⟨t2, w2, by omega, e2⟩
theorem dwn_ty {i w hw : Nat} {z : Gr × Int32} (hng : ng ≤ 6) (hnd : nd ≤ 12) (hQ : QI z.1 ng nd nc) (hi : i < ng) (hw1 : w < 100000) (e : z.2 = jI w) : QI (dwnStep oh hw nd i z).1 ng nd nc ∧ ∃ w', w' ≤ w ∧ (dwnStep oh hw nd i z).2 = jI w' := by
  obtain ⟨l, hl, e1⟩ := (QC_l hng hi).mp (hQ (15 + 10 * i + 1))
  obtain ⟨wd, hwd, e2⟩ := (QC_w hng hi).mp (hQ (15 + 10 * i))
  have hwl : w * l ≤ w * 50 := Nat.mul_le_mul_left _ hl
  have elk : (z.2 * z.1 (15 + 10 * i + 1) + jI 99) / jI 100 = jI ((w * l + 99) / 100) := by
    rw [e, e1, jI_mul, jI_add, jI_div (by omega) (by omega)]
  have hlk : (w * l + 99) / 100 ≤ w := by omega
  by_cases ho : oh i hw = true
  · rw [dwn_eq (by omega) hnd ho]
    dsimp only
    rw [elk, e, jI_sub hlk]
    generalize (w * l + 99) / 100 = lk at *
    have Q1 : QI (gu z.1 8 (z.1 8 + jI lk)) ng nd nc := QI_o hQ (by omega)
    rw [gu_ne (by omega), e2, mn_jI (by omega) (by omega)]
    have hr := (ordS_lt (g := gu z.1 8 (z.1 8 + jI lk)) (gt := jI i) nd).2
    obtain ⟨Q2, w2, q2, f2⟩ := watN_ty (z := (gu z.1 8 (z.1 8 + jI lk), jI (min wd (w - lk)))) hng hnd Q1 (by omega) rfl _ hr
    refine ⟨QI_o (QI_o Q2 (by omega)) (by omega), w - lk - min wd (w - lk) + w2, by omega, ?_⟩
    rw [f2]
    have htk : min wd (w - lk) ≤ w - lk := by omega
    generalize min wd (w - lk) = tk at *
    rw [show jI (w - lk) = jI (w - lk - tk) + jI tk from by rw [jI_add]; congr 1; omega, ← jI_add, Int32.add_assoc]
    congr 1
    rw [Int32.sub_eq_add_neg, Int32.add_comm (jI w2), ← Int32.add_assoc, Int32.add_right_neg, Int32.zero_add]
  · rw [dwn_no ho]
    dsimp only
    rw [elk, e, jI_sub hlk]
    exact ⟨QI_o hQ (by omega), w - (w * l + 99) / 100, by omega, rfl⟩
theorem dwnN_ty {w hw : Nat} {z : Gr × Int32} (hng : ng ≤ 6) (hnd : nd ≤ 12) (hQ : QI z.1 ng nd nc) (hw1 : w < 100000) (e : z.2 = jI w) : ∀ n, n ≤ ng → QI (itN n (dwnStep oh hw nd) z).1 ng nd nc ∧ ∃ w', w' ≤ w ∧ (itN n (dwnStep oh hw nd) z).2 = jI w'
  | 0, _ => ⟨hQ, w, Nat.le_refl _, e⟩
  | n + 1, hn => by
    obtain ⟨t1, w1, q1, e1⟩ := dwnN_ty hng hnd hQ hw1 e n (by omega)
    obtain ⟨t2, w2, q2, e2⟩ := dwn_ty hng hnd t1 (i := n) (by omega) (w := w1) (by omega) e1
    exact ⟨t2, w2, by omega, e2⟩
theorem c_note {i : Nat} {w v : Int32} (ho : DI o) (hng : ng ≤ 6) (hnd : nd ≤ 12) (hi : i < nd) : Ev 45 (0, [.ref (nA o i), .int w, .int v], [], 0, 0, MM Ln (LD σ o g ng nd nc) lo db) K ↔ K (.inl none) (MM Ln (LD σ o (if w ≤ jI 0 then g else gu (gu g (75 + 9 * i + 7) (g (75 + 9 * i + 7) + w)) (75 + 9 * i + 8) v) ng nd nc) lo db) := by
  simp (disch := first | assumption | omega) only [s_45_0, s_45_1, s_45_4, s_45_5, s_45_6, s_45_9, s_45_10, s_45_11, s_45_14, s_45_15, s_45_16, s_45_19, jI_mul, jI_add, jI_tnc, jI_ixT, true_and, and_true, bZ_0, bZ_1, bZ_b, jI_nz, jI_div, jI_rem, jI_mod, Nat.add_zero, bI_if, not_false_iff, if_true, if_false, eq_self, LD_s6, LD_s7, LD_s8, LD_s9, LD_s10, LD_s11, LD_s12, LD_b0, LD_b1, LD_b2, LD_b3, LD_b4, LD_b5, LD_b6, LD_b7, LD_g1, LD_g2, LD_g3, LD_g4, LD_n0, LD_n1, LD_n2, LD_n3, LD_n4, LD_n5, LD_n6, LD_n7, LD_n8, LD_cp, LD_ac, LD_or, LD_oh, LD_us6, LD_us7, LD_us8, LD_us9, LD_us10, LD_us11, LD_us12, LD_ub0, LD_ub1, LD_ub2, LD_ub3, LD_ub4, LD_ub5, LD_ub6, LD_ub7, LD_ug1, LD_ug2, LD_ug3, LD_ug4, LD_un0, LD_un1, LD_un2, LD_un3, LD_un4, LD_un5, LD_un6, LD_un7, LD_un8, LD_uor, LD_uoh]
  by_cases h : w ≤ jI 0 <;> simp only [h, if_true, if_false]
theorem c_thieves {w h : Nat} (ho : DI o) (hng : ng ≤ 6) (hnd : nd ≤ 12) (h4 : g 4 = jI nd) (h0 : g 0 = jI h) (hT : QI g ng nd nc) (hw : w < 100000) (hh : h < 2147483648)
    (H : K (.inl (some (.int (itN nd (thvStep (jI h)) (g, jI w)).2))) (MM Ln (LD σ o (itN nd (thvStep (jI h)) (g, jI w)).1 ng nd nc) lo db)) :
    Ev 16 (0, [.ref o, .int (jI w), .null, .null, .null, .null], [], 0, 0, MM Ln (LD σ o g ng nd nc) lo db) K := by
  simp (disch := first | assumption | omega) only [s_16_0, s_16_1, s_16_2, s_16_3, s_16_5, s_16_6, s_16_9, s_16_12, s_16_13, s_16_16, s_16_17, s_16_18, s_16_20, s_16_22, s_16_25, s_16_28, s_16_30, s_16_31, r_16_31, s_16_34, s_16_36, s_16_38, s_16_40, s_16_41, s_16_44, r_16_44, s_16_47, s_16_48, s_16_51, s_16_52, s_16_55, s_16_57, s_16_58, s_16_61, s_16_62, s_16_64, s_16_65, s_16_66, s_16_69, s_16_72, s_16_73, jI_mul, jI_add, jI_tnc, jI_ixT, true_and, and_true, bZ_0, bZ_1, bZ_b, jI_nz, jI_div, jI_rem, jI_mod, Nat.add_zero, bI_if, not_false_iff, if_true, if_false, eq_self]
  refine lup0 nd (fun i x => ∃ s1 s2, x = (4, [.ref o, .int (jI w), .int (itN i (thvStep (jI h)) (g, jI w)).2, .int (jI i), s1, s2], [], 0, 0, MM Ln (LD σ o (itN i (thvStep (jI h)) (g, jI w)).1 ng nd nc) lo db)) ⟨_, _, rfl⟩ ?_ ?_
  · rintro i x hi ⟨s1, s2, rfl⟩ hn
    have e4 := (thvN_fx (h := jI h) (n := i) (z := (g, jI w)) (k := 4) (by omega) (by omega)).trans h4
    have e0 := (thvN_fx (h := jI h) (n := i) (z := (g, jI w)) (k := 0) (by omega) (by omega)).trans h0
    obtain ⟨hT', w', hw', ew⟩ := thvN_ty (h := h) (z := (g, jI w)) hng hnd hT hw hh rfl i (by omega)
    have en : itN (i + 1) (thvStep (jI h)) (g, jI w) = thvStep (jI h) i (itN i (thvStep (jI h)) (g, jI w)) := rfl
    rw [en] at hn
    generalize itN i (thvStep (jI h)) (g, jI w) = z at *
    obtain ⟨n, t, q1, q2, q3, q4, q5⟩ := dr_ty hng hT' hi (w := w') (by omega)
    rw [s_16_4]
    simp (disch := first | assumption | omega) only [s_16_0, s_16_1, s_16_2, s_16_3, s_16_5, s_16_6, s_16_9, s_16_12, s_16_13, s_16_16, s_16_17, s_16_18, s_16_20, s_16_22, s_16_25, s_16_28, s_16_30, s_16_31, r_16_31, s_16_34, s_16_36, s_16_38, s_16_40, s_16_41, s_16_44, r_16_44, s_16_47, s_16_48, s_16_51, s_16_52, s_16_55, s_16_57, s_16_58, s_16_61, s_16_62, s_16_64, s_16_65, s_16_66, s_16_69, s_16_72, s_16_73, jI_mul, jI_add, jI_tnc, jI_ixT, true_and, and_true, bZ_0, bZ_1, bZ_b, jI_nz, jI_div, jI_rem, jI_mod, Nat.add_zero, bI_if, not_false_iff, if_true, if_false, eq_self, LD_s6, LD_s7, LD_s8, LD_s9, LD_s10, LD_s11, LD_s12, LD_b0, LD_b1, LD_b2, LD_b3, LD_b4, LD_b5, LD_b6, LD_b7, LD_g1, LD_g2, LD_g3, LD_g4, LD_n0, LD_n1, LD_n2, LD_n3, LD_n4, LD_n5, LD_n6, LD_n7, LD_n8, LD_cp, LD_ac, LD_or, LD_oh, e4, jI_le]
    rw [if_neg (by omega)]
    unfold thvStep at hn
    by_cases h1 : z.1 (75 + 9 * i + 5) = jI 0
    · simp only [if_pos h1] at hn ⊢
      exact hn _ ⟨_, _, rfl⟩
    · simp (disch := first | assumption | omega) only [if_neg h1, s_16_0, s_16_1, s_16_2, s_16_3, s_16_5, s_16_6, s_16_9, s_16_12, s_16_13, s_16_16, s_16_17, s_16_18, s_16_20, s_16_22, s_16_25, s_16_28, s_16_30, s_16_31, r_16_31, s_16_34, s_16_36, s_16_38, s_16_40, s_16_41, s_16_44, r_16_44, s_16_47, s_16_48, s_16_51, s_16_52, s_16_55, s_16_57, s_16_58, s_16_61, s_16_62, s_16_64, s_16_65, s_16_66, s_16_69, s_16_72, s_16_73, jI_mul, jI_add, jI_tnc, jI_ixT, true_and, and_true, bZ_0, bZ_1, bZ_b, jI_nz, jI_div, jI_rem, jI_mod, Nat.add_zero, bI_if, not_false_iff, if_true, if_false, eq_self, c_drink, LD_s6, LD_s7, LD_s8, LD_s9, LD_s10, LD_s11, LD_s12, LD_b0, LD_b1, LD_b2, LD_b3, LD_b4, LD_b5, LD_b6, LD_b7, LD_g1, LD_g2, LD_g3, LD_g4, LD_n0, LD_n1, LD_n2, LD_n3, LD_n4, LD_n5, LD_n6, LD_n7, LD_n8, LD_cp, LD_ac, LD_or, LD_oh, LD_us6, LD_us7, LD_us8, LD_us9, LD_us10, LD_us11, LD_us12, LD_ub0, LD_ub1, LD_ub2, LD_ub3, LD_ub4, LD_ub5, LD_ub6, LD_ub7, LD_ug1, LD_ug2, LD_ug3, LD_ug4, LD_un0, LD_un1, LD_un2, LD_un3, LD_un4, LD_un5, LD_un6, LD_un7, LD_un8, LD_uor, LD_uoh, gu_ne, e0, c_note] at hn ⊢
      rw [ew, q4] at hn ⊢
      by_cases hz : n = 0
      · subst hz
        have z1 : ¬ jI 0 < jI 0 := by decide
        have z2 : jI 0 ≤ jI 0 := by decide
        simp (disch := first | assumption | omega) only [if_neg z1, if_pos z2, s_16_0, s_16_1, s_16_2, s_16_3, s_16_5, s_16_6, s_16_9, s_16_12, s_16_13, s_16_16, s_16_17, s_16_18, s_16_20, s_16_22, s_16_25, s_16_28, s_16_30, s_16_31, r_16_31, s_16_34, s_16_36, s_16_38, s_16_40, s_16_41, s_16_44, r_16_44, s_16_47, s_16_48, s_16_51, s_16_52, s_16_55, s_16_57, s_16_58, s_16_61, s_16_62, s_16_64, s_16_65, s_16_66, s_16_69, s_16_72, s_16_73, jI_mul, jI_add, jI_tnc, jI_ixT, true_and, and_true, bZ_0, bZ_1, bZ_b, jI_nz, jI_div, jI_rem, jI_mod, Nat.add_zero, bI_if, not_false_iff, if_true, if_false, eq_self, LD_s6, LD_s7, LD_s8, LD_s9, LD_s10, LD_s11, LD_s12, LD_b0, LD_b1, LD_b2, LD_b3, LD_b4, LD_b5, LD_b6, LD_b7, LD_g1, LD_g2, LD_g3, LD_g4, LD_n0, LD_n1, LD_n2, LD_n3, LD_n4, LD_n5, LD_n6, LD_n7, LD_n8, LD_cp, LD_ac, LD_or, LD_oh, LD_us6, LD_us7, LD_us8, LD_us9, LD_us10, LD_us11, LD_us12, LD_ub0, LD_ub1, LD_ub2, LD_ub3, LD_ub4, LD_ub5, LD_ub6, LD_ub7, LD_ug1, LD_ug2, LD_ug3, LD_ug4, LD_un0, LD_un1, LD_un2, LD_un3, LD_un4, LD_un5, LD_un6, LD_un7, LD_un8, LD_uor, LD_uoh, gu_ne, Int32.sub_zero, Int32.add_zero, show (jI 0 : Int32) = 0 from rfl, gu_self] at hn ⊢
        exact hn _ ⟨_, _, rfl⟩
      · have z1 : jI 0 < jI n := (jI_lt (by omega) (by omega)).mpr (by omega)
        have z2 : ¬ jI n ≤ jI 0 := fun e => hz (by have := (jI_le (by omega) (by omega)).mp e; omega)
        simp (disch := first | assumption | omega) only [if_pos z1, if_neg z2, s_16_0, s_16_1, s_16_2, s_16_3, s_16_5, s_16_6, s_16_9, s_16_12, s_16_13, s_16_16, s_16_17, s_16_18, s_16_20, s_16_22, s_16_25, s_16_28, s_16_30, s_16_31, r_16_31, s_16_34, s_16_36, s_16_38, s_16_40, s_16_41, s_16_44, r_16_44, s_16_47, s_16_48, s_16_51, s_16_52, s_16_55, s_16_57, s_16_58, s_16_61, s_16_62, s_16_64, s_16_65, s_16_66, s_16_69, s_16_72, s_16_73, jI_mul, jI_add, jI_tnc, jI_ixT, true_and, and_true, bZ_0, bZ_1, bZ_b, jI_nz, jI_div, jI_rem, jI_mod, Nat.add_zero, bI_if, not_false_iff, if_true, if_false, eq_self, LD_s6, LD_s7, LD_s8, LD_s9, LD_s10, LD_s11, LD_s12, LD_b0, LD_b1, LD_b2, LD_b3, LD_b4, LD_b5, LD_b6, LD_b7, LD_g1, LD_g2, LD_g3, LD_g4, LD_n0, LD_n1, LD_n2, LD_n3, LD_n4, LD_n5, LD_n6, LD_n7, LD_n8, LD_cp, LD_ac, LD_or, LD_oh, LD_us6, LD_us7, LD_us8, LD_us9, LD_us10, LD_us11, LD_us12, LD_ub0, LD_ub1, LD_ub2, LD_ub3, LD_ub4, LD_ub5, LD_ub6, LD_ub7, LD_ug1, LD_ug2, LD_ug3, LD_ug4, LD_un0, LD_un1, LD_un2, LD_un3, LD_un4, LD_un5, LD_un6, LD_un7, LD_un8, LD_uor, LD_uoh, gu_ne] at hn ⊢
        rw [gu_comm (a := 75 + 9 * i + 7) (b := 75 + 9 * i + 8) (by omega)]
        exact hn _ ⟨_, _, rfl⟩
  · rintro x ⟨s1, s2, rfl⟩
    have e4 := (thvN_fx (h := jI h) (n := nd) (z := (g, jI w)) (k := 4) (by omega) (by omega)).trans h4
    rw [s_16_4]
    simp (disch := first | assumption | omega) only [s_16_0, s_16_1, s_16_2, s_16_3, s_16_5, s_16_6, s_16_9, s_16_12, s_16_13, s_16_16, s_16_17, s_16_18, s_16_20, s_16_22, s_16_25, s_16_28, s_16_30, s_16_31, r_16_31, s_16_34, s_16_36, s_16_38, s_16_40, s_16_41, s_16_44, r_16_44, s_16_47, s_16_48, s_16_51, s_16_52, s_16_55, s_16_57, s_16_58, s_16_61, s_16_62, s_16_64, s_16_65, s_16_66, s_16_69, s_16_72, s_16_73, jI_mul, jI_add, jI_tnc, jI_ixT, true_and, and_true, bZ_0, bZ_1, bZ_b, jI_nz, jI_div, jI_rem, jI_mod, Nat.add_zero, bI_if, not_false_iff, if_true, if_false, eq_self, LD_s6, LD_s7, LD_s8, LD_s9, LD_s10, LD_s11, LD_s12, LD_b0, LD_b1, LD_b2, LD_b3, LD_b4, LD_b5, LD_b6, LD_b7, LD_g1, LD_g2, LD_g3, LD_g4, LD_n0, LD_n1, LD_n2, LD_n3, LD_n4, LD_n5, LD_n6, LD_n7, LD_n8, LD_cp, LD_ac, LD_or, LD_oh, e4, jI_le, Nat.le_refl]
    exact H
end
