/-! THE CLASS: gates and gardens are added -/
set_option maxRecDepth 16384
section
variable {K : Ou → Me → Prop} {Ln : Nat} {σ σ' : Nat → Nat → Int32} {g : Gr} {lo : Nat → Nat → Int64} {db : Nat → Nat → UInt64} {μ : Me} {oh : Nat → Nat → Bool} {o ng nd nc h i : Nat}
theorem MM_LD (hR : LD σ o g ng nd nc = σ) : MM Ln σ lo db = MM Ln (LD σ o g ng nd nc) lo db := by rw [hR]
/-- a row's first n numbers are 0 -/
def zrO (σ : Nat → Nat → Int32) (a n : Nat) : Nat → Nat → Int32 := fun x k => if x = a ∧ k < n then jI 0 else σ x k
theorem zrO_0 {a : Nat} : zrO σ a 0 = σ := by
  funext x k
  unfold zrO
  rw [if_neg (by omega)]
theorem zrO_s {a n : Nat} : u2 (zrO σ a n) a n (jI 0) = zrO σ a (n + 1) := by
  funext x k
  unfold u2 zrO
  by_cases h1 : x = a ∧ k = n
  · rw [if_pos h1, if_pos (by omega)]
  · rw [if_neg h1]
    by_cases h2 : x = a ∧ k < n
    · rw [if_pos h2, if_pos (by omega)]
    · rw [if_neg h2, if_neg (by omega)]
theorem zrO_o {a n x : Nat} (h : x ≠ a) : zrO σ a n x = σ x := by
  funext k; exact if_neg (fun e => h e.1)
theorem c_setUpG {w : Int32} (ho : DI o) (hng : ng ≤ 6) (hnd : nd ≤ 12) (hi : i < ng) : Ev 49 (0, [.ref (gA o i), .int w, .null], [], 0, 0, MM Ln (LD σ o g ng nd nc) lo db) K ↔
    K (.inl none) (MM Ln (LD (zrO σ (ohA o i) 7) o (gu (gu (gu (gu g (15 + 10 * i) w) (15 + 10 * i + 1) (jI 5)) (15 + 10 * i + 2) (jI 0)) (15 + 10 * i + 3) (jI 0)) ng nd nc) lo db) := by
  simp (disch := first | assumption | omega) only [s_49_0, s_49_1, s_49_2, s_49_5, s_49_6, s_49_7, s_49_10, s_49_11, s_49_12, s_49_15, s_49_16, s_49_17, s_49_20, s_49_21, s_49_23, s_49_25, s_49_28, s_49_29, s_49_32, s_49_33, s_49_34, s_49_35, s_49_38, s_49_41, jI_mul, jI_add, jI_tnc, jI_ixT, true_and, and_true, bZ_0, bZ_1, bZ_b, jI_nz, jI_div, jI_rem, jI_mod, Nat.add_zero, bI_if, not_false_iff, if_true, if_false, eq_self, LD_us6, LD_us7, LD_us8, LD_us9, LD_us10, LD_us11, LD_us12, LD_ub0, LD_ub1, LD_ub2, LD_ub3, LD_ub4, LD_ub5, LD_ub6, LD_ub7, LD_ug1, LD_ug2, LD_ug3, LD_ug4, LD_un0, LD_un1, LD_un2, LD_un3, LD_un4, LD_un5, LD_un6, LD_un7, LD_un8, LD_uor, LD_uoh]
  generalize (gu (gu (gu (gu g (15 + 10 * i) w) (15 + 10 * i + 1) (jI 5)) (15 + 10 * i + 2) (jI 0)) (15 + 10 * i + 3) (jI 0)) = gq
  have step : ∀ n, n ≤ 7 → (Ev 49 (22, [.ref (gA o i), .int w, .int (jI 0)], [], 0, 0, MM Ln (LD σ o gq ng nd nc) lo db) K ↔ Ev 49 (22, [.ref (gA o i), .int w, .int (jI n)], [], 0, 0, MM Ln (LD (zrO σ (ohA o i) n) o gq ng nd nc) lo db) K) := by
    intro n
    induction n with
    | zero => intro _; rw [zrO_0]
    | succ n ih =>
      intro hn
      rw [ih (by omega), s_49_22]
      simp (disch := first | assumption | omega) only [s_49_0, s_49_1, s_49_2, s_49_5, s_49_6, s_49_7, s_49_10, s_49_11, s_49_12, s_49_15, s_49_16, s_49_17, s_49_20, s_49_21, s_49_23, s_49_25, s_49_28, s_49_29, s_49_32, s_49_33, s_49_34, s_49_35, s_49_38, s_49_41, jI_mul, jI_add, jI_tnc, jI_ixT, true_and, and_true, bZ_0, bZ_1, bZ_b, jI_nz, jI_div, jI_rem, jI_mod, Nat.add_zero, bI_if, not_false_iff, if_true, if_false, eq_self, jI_le, LD_uoh]
      rw [if_neg (by omega), zrO_s]
  rw [step 7 (by omega), s_49_22]
  simp (disch := first | assumption | omega) only [s_49_0, s_49_1, s_49_2, s_49_5, s_49_6, s_49_7, s_49_10, s_49_11, s_49_12, s_49_15, s_49_16, s_49_17, s_49_20, s_49_21, s_49_23, s_49_25, s_49_28, s_49_29, s_49_32, s_49_33, s_49_34, s_49_35, s_49_38, s_49_41, jI_mul, jI_add, jI_tnc, jI_ixT, true_and, and_true, bZ_0, bZ_1, bZ_b, jI_nz, jI_div, jI_rem, jI_mod, Nat.add_zero, bI_if, not_false_iff, if_true, if_false, eq_self, jI_le, Nat.le_refl]
/-- no hour of a gate -/
def ohZ (oh : Nat → Nat → Bool) (k : Nat) : Nat → Nat → Bool := fun i y => if i = k then false else oh i y
theorem itN_zr {b k : Nat} {v : Int32} : ∀ n, itN n (fun i (g : Gr) => gu g (b + i) v) g k = if b ≤ k ∧ k < b + n then v else g k
  | 0 => by rw [if_neg (by omega)]; rfl
  | n + 1 => by
    have e : itN (n + 1) (fun i (g : Gr) => gu g (b + i) v) g k = gu (itN n (fun i (g : Gr) => gu g (b + i) v) g) (b + n) v k := rfl
    rw [e]
    by_cases hk : k = b + n
    · rw [hk, gu_at, if_pos (by omega)]
    · rw [gu_ne hk, itN_zr n]
      by_cases h2 : b ≤ k ∧ k < b + n
      · rw [if_pos h2, if_pos (by omega)]
      · rw [if_neg h2, if_neg (by omega)]
theorem gateS_at {k n : Nat} {w : Int32} : gateS g n w k = if k = 15 + 10 * n + 1 then jI 5 else if k = 15 + 10 * n then w else if 15 + 10 * n ≤ k ∧ k < 15 + 10 * n + 10 then jI 0 else if k = 3 then jI (n + 1) else g k := by
  unfold gateS
  by_cases h1 : k = 15 + 10 * n + 1
  · rw [if_pos h1, h1, gu_at]
  · rw [if_neg h1, gu_ne h1]
    by_cases h2 : k = 15 + 10 * n
    · rw [if_pos h2, h2, gu_at]
    · rw [if_neg h2, gu_ne h2, itN_zr]
      by_cases h3 : 15 + 10 * n ≤ k ∧ k < 15 + 10 * n + 10
      · rw [if_pos h3, if_pos h3]
      · rw [if_neg h3, if_neg h3]; rfl
theorem garS_at {k n gt : Nat} {bd sh co : Int32} : garS g n gt bd sh co k = if k = 75 + 9 * n + 8 then jm1 else if k = 75 + 9 * n + 3 then co else if k = 75 + 9 * n + 2 then sh else if k = 75 + 9 * n + 1 then bd else if k = 75 + 9 * n then jI gt else if 75 + 9 * n ≤ k ∧ k < 75 + 9 * n + 9 then jI 0 else if k = 4 then jI (n + 1) else g k := by
  unfold garS
  by_cases h1 : k = 75 + 9 * n + 8
  · rw [if_pos h1, h1, gu_at]
  · rw [if_neg h1, gu_ne h1]
    by_cases h2 : k = 75 + 9 * n + 3
    · rw [if_pos h2, h2, gu_at]
    · rw [if_neg h2, gu_ne h2]
      by_cases h3 : k = 75 + 9 * n + 2
      · rw [if_pos h3, h3, gu_at]
      · rw [if_neg h3, gu_ne h3]
        by_cases h4 : k = 75 + 9 * n + 1
        · rw [if_pos h4, h4, gu_at]
        · rw [if_neg h4, gu_ne h4]
          by_cases h5 : k = 75 + 9 * n
          · rw [if_pos h5, h5, gu_at]
          · rw [if_neg h5, gu_ne h5, itN_zr]
            by_cases h6 : 75 + 9 * n ≤ k ∧ k < 75 + 9 * n + 9
            · rw [if_pos h6, if_pos h6]
            · rw [if_neg h6, if_neg h6]; rfl
theorem c_addGate {w : Int32} (ho : DI o) (hR : RD σ o g oh ng nd nc) (hng : ng < 6) (hnd : nd ≤ 12) (hnc : nc ≤ 8) (h3 : g 3 = jI ng) (H : ∀ σ', RD σ' o (gateS g ng w) (ohZ oh ng) (ng + 1) nd nc → Fout o σ σ' → K (.inl (some (.int (jI ng)))) (MM Ln σ' lo db)) :
    Ev 7 (0, [.ref o, .int w, .null], [], 0, 0, MM Ln σ lo db) K := by
  obtain ⟨hR, hO⟩ := hR
  have hng6 : ng + 1 ≤ 6 := by omega
  have hv : ∀ {k : Nat}, _ → VW σ o k = g k := fun {k} hk => VW_at (k := k) (by omega) hnd hnc hR hk
  rw [MM_LD (LD_VW (σ := σ) (o := o) (nc := nc) hng6 hnd)]
  generalize VW σ o = g0 at *
  have e3 : g0 3 = jI ng := (hv (by omega)).trans h3
  have nlt : (jI ng < jI 6) = True := jI_ltT (by omega) (by omega) hng
  simp (disch := first | assumption | omega) only [s_7_0, s_7_1, s_7_4, s_7_6, s_7_9, s_7_10, s_7_11, s_7_12, s_7_15, s_7_16, s_7_17, s_7_20, s_7_21, s_7_22, s_7_23, r_7_23, s_7_26, s_7_27, s_7_28, s_7_31, s_7_32, s_7_33, s_7_36, s_7_37, jI_mul, jI_add, jI_tnc, jI_ixT, true_and, and_true, bZ_0, bZ_1, bZ_b, jI_nz, jI_div, jI_rem, jI_mod, Nat.add_zero, bI_if, not_false_iff, if_true, if_false, eq_self, LD_s6, LD_s7, LD_s8, LD_s9, LD_s10, LD_s11, LD_s12, LD_b0, LD_b1, LD_b2, LD_b3, LD_b4, LD_b5, LD_b6, LD_b7, LD_g1, LD_g2, LD_g3, LD_g4, LD_n0, LD_n1, LD_n2, LD_n3, LD_n4, LD_n5, LD_n6, LD_n7, LD_n8, LD_cp, LD_ac, LD_or, LD_oh, LD_us6, LD_us7, LD_us8, LD_us9, LD_us10, LD_us11, LD_us12, LD_ub0, LD_ub1, LD_ub2, LD_ub3, LD_ub4, LD_ub5, LD_ub6, LD_ub7, LD_ug1, LD_ug2, LD_ug3, LD_ug4, LD_un0, LD_un1, LD_un2, LD_un3, LD_un4, LD_un5, LD_un6, LD_un7, LD_un8, LD_uor, LD_uoh, e3, nlt, c_setUpG, gu_ne]
  have eL : LD (zrO σ (ohA o ng) 7) o (gu (gu (gu (gu (gu g0 (15 + 10 * ng) w) (15 + 10 * ng + 1) (jI 5)) (15 + 10 * ng + 2) (jI 0)) (15 + 10 * ng + 3) (jI 0)) 3 (jI (ng + 1))) (ng + 1) nd nc = LD (zrO σ (ohA o ng) 7) o (gateS g ng w) (ng + 1) nd nc := by
    refine LD_cg (fun k hk => ?_)
    rw [gateS_at]
    by_cases k3 : k = 3
    · subst k3
      rw [gu_at, if_neg (by omega), if_neg (by omega), if_neg (by omega), if_pos rfl]
    · rw [gu_ne k3]
      by_cases q3 : k = 15 + 10 * ng + 3
      · subst q3; rw [gu_at, if_neg (by omega), if_neg (by omega), if_pos (by omega)]
      · rw [gu_ne q3]
        by_cases q2 : k = 15 + 10 * ng + 2
        · subst q2; rw [gu_at, if_neg (by omega), if_neg (by omega), if_pos (by omega)]
        · rw [gu_ne q2]
          by_cases q1 : k = 15 + 10 * ng + 1
          · subst q1; rw [gu_at, if_pos rfl]
          · rw [gu_ne q1, if_neg q1]
            by_cases q0 : k = 15 + 10 * ng
            · subst q0; rw [gu_at, if_pos rfl]
            · rw [gu_ne q0, if_neg q0, if_neg (by omega), if_neg k3]
              exact hv (by omega)
  rw [eL]
  refine H _ (RD.ld hng6 ?_) (Fout.ld hng6 hnd (fun a ha => zrO_o (by unfold ohA; omega)))
  intro i hi
  unfold ohZ
  by_cases q : i = ng
  · subst q
    have ez : ∀ d, d < 7 → zrO σ (ohA o i) 7 (ohA o i) d = jI 0 := fun d hd => if_pos ⟨rfl, hd⟩
    refine ⟨fun x hx => ?_, fun d r hd hr => ?_⟩
    · rw [ez _ (by omega), if_pos rfl]; exact bt_0
    · rw [ez d hd]; exact bt_0
  · rw [zrO_o (by unfold ohA; omega)]
    obtain ⟨q1, q2⟩ := hO i (by omega)
    refine ⟨fun x hx => ?_, q2⟩
    rw [if_neg q]; exact q1 x hx
theorem c_setUpN {a b c d : Int32} (ho : DI o) (hng : ng ≤ 6) (hnd : nd ≤ 12) (hi : i < nd) : Ev 42 (0, [.ref (nA o i), .int a, .int b, .int c, .int d], [], 0, 0, MM Ln (LD σ o g ng nd nc) lo db) K ↔
    K (.inl none) (MM Ln (LD σ o (gu (gu (gu (gu (gu (gu (gu (gu (gu g (75 + 9 * i) a) (75 + 9 * i + 1) b) (75 + 9 * i + 2) c) (75 + 9 * i + 3) d) (75 + 9 * i + 4) (jI 0)) (75 + 9 * i + 5) (jI 0)) (75 + 9 * i + 6) (jI 0)) (75 + 9 * i + 7) (jI 0)) (75 + 9 * i + 8) jm1) ng nd nc) lo db) := by
  simp (disch := first | assumption | omega) only [s_42_0, s_42_1, s_42_2, s_42_5, s_42_6, s_42_7, s_42_10, s_42_11, s_42_12, s_42_15, s_42_16, s_42_18, s_42_21, s_42_22, s_42_23, s_42_26, s_42_27, s_42_28, s_42_31, s_42_32, s_42_33, s_42_36, s_42_37, s_42_38, s_42_41, s_42_42, s_42_43, s_42_46, jI_mul, jI_add, jI_tnc, jI_ixT, true_and, and_true, bZ_0, bZ_1, bZ_b, jI_nz, jI_div, jI_rem, jI_mod, Nat.add_zero, bI_if, not_false_iff, if_true, if_false, eq_self, LD_us6, LD_us7, LD_us8, LD_us9, LD_us10, LD_us11, LD_us12, LD_ub0, LD_ub1, LD_ub2, LD_ub3, LD_ub4, LD_ub5, LD_ub6, LD_ub7, LD_ug1, LD_ug2, LD_ug3, LD_ug4, LD_un0, LD_un1, LD_un2, LD_un3, LD_un4, LD_un5, LD_un6, LD_un7, LD_un8, LD_uor, LD_uoh]
theorem c_addGarden {gt : Nat} {bd sh co : Int32} (ho : DI o) (hR : RD σ o g oh ng nd nc) (hng : ng ≤ 6) (hnd : nd < 12) (hnc : nc ≤ 8) (h4 : g 4 = jI nd) (H : ∀ σ', RD σ' o (garS g nd gt bd sh co) oh ng (nd + 1) nc → Fout o σ σ' → K (.inl (some (.int (jI nd)))) (MM Ln σ' lo db)) :
    Ev 8 (0, [.ref o, .int (jI gt), .int bd, .int sh, .int co, .null], [], 0, 0, MM Ln σ lo db) K := by
  obtain ⟨hR, hO⟩ := hR
  have hnd6 : nd + 1 ≤ 12 := by omega
  have hv : ∀ {k : Nat}, _ → VW σ o k = g k := fun {k} hk => VW_at (k := k) hng (by omega) hnc hR hk
  rw [MM_LD (LD_VW (σ := σ) (o := o) (nc := nc) hng hnd6)]
  generalize VW σ o = g0 at *
  have e4 : g0 4 = jI nd := (hv (by omega)).trans h4
  have nlt : (jI nd < jI 12) = True := jI_ltT (by omega) (by omega) hnd
  simp (disch := first | assumption | omega) only [s_8_0, s_8_1, s_8_4, s_8_6, s_8_9, s_8_10, s_8_11, s_8_12, s_8_15, s_8_17, s_8_18, s_8_21, s_8_23, s_8_24, s_8_25, s_8_26, s_8_27, s_8_29, r_8_29, s_8_32, s_8_33, s_8_34, s_8_37, s_8_38, s_8_39, s_8_42, s_8_44, jI_mul, jI_add, jI_tnc, jI_ixT, true_and, and_true, bZ_0, bZ_1, bZ_b, jI_nz, jI_div, jI_rem, jI_mod, Nat.add_zero, bI_if, not_false_iff, if_true, if_false, eq_self, LD_s6, LD_s7, LD_s8, LD_s9, LD_s10, LD_s11, LD_s12, LD_b0, LD_b1, LD_b2, LD_b3, LD_b4, LD_b5, LD_b6, LD_b7, LD_g1, LD_g2, LD_g3, LD_g4, LD_n0, LD_n1, LD_n2, LD_n3, LD_n4, LD_n5, LD_n6, LD_n7, LD_n8, LD_cp, LD_ac, LD_or, LD_oh, LD_us6, LD_us7, LD_us8, LD_us9, LD_us10, LD_us11, LD_us12, LD_ub0, LD_ub1, LD_ub2, LD_ub3, LD_ub4, LD_ub5, LD_ub6, LD_ub7, LD_ug1, LD_ug2, LD_ug3, LD_ug4, LD_un0, LD_un1, LD_un2, LD_un3, LD_un4, LD_un5, LD_un6, LD_un7, LD_un8, LD_uor, LD_uoh, e4, nlt, c_setUpN, gu_ne]
  rw [LD_cg (g := garS g nd gt bd sh co) (fun k hk => ?_)]
  · exact H _ (RD.ld hng hO) (Fout.ld hng hnd6 (fun _ _ => rfl))
  · rw [garS_at]
    by_cases k3 : k = 4
    · subst k3
      rw [gu_at, if_neg (by omega), if_neg (by omega), if_neg (by omega), if_neg (by omega), if_neg (by omega), if_neg (by omega), if_pos rfl]
    · rw [gu_ne k3]
      by_cases q : 75 + 9 * nd ≤ k ∧ k < 75 + 9 * nd + 9
      · have : k = 75 + 9 * nd ∨ k = 75 + 9 * nd + 1 ∨ k = 75 + 9 * nd + 2 ∨ k = 75 + 9 * nd + 3 ∨ k = 75 + 9 * nd + 4 ∨ k = 75 + 9 * nd + 5 ∨ k = 75 + 9 * nd + 6 ∨ k = 75 + 9 * nd + 7 ∨ k = 75 + 9 * nd + 8 := by omega
        rcases this with rfl | rfl | rfl | rfl | rfl | rfl | rfl | rfl | rfl
        · rw [if_neg (by omega), if_neg (by omega), if_neg (by omega), if_neg (by omega), if_pos rfl]; simp (disch := omega) only [gu_ne, gu_at]
        · rw [if_neg (by omega), if_neg (by omega), if_neg (by omega), if_pos rfl]; simp (disch := omega) only [gu_ne, gu_at]
        · rw [if_neg (by omega), if_neg (by omega), if_pos rfl]; simp (disch := omega) only [gu_ne, gu_at]
        · rw [if_neg (by omega), if_pos rfl]; simp (disch := omega) only [gu_ne, gu_at]
        · rw [if_neg (by omega), if_neg (by omega), if_neg (by omega), if_neg (by omega), if_neg (by omega), if_pos q]; simp (disch := omega) only [gu_ne, gu_at]
        · rw [if_neg (by omega), if_neg (by omega), if_neg (by omega), if_neg (by omega), if_neg (by omega), if_pos q]; simp (disch := omega) only [gu_ne, gu_at]
        · rw [if_neg (by omega), if_neg (by omega), if_neg (by omega), if_neg (by omega), if_neg (by omega), if_pos q]; simp (disch := omega) only [gu_ne, gu_at]
        · rw [if_neg (by omega), if_neg (by omega), if_neg (by omega), if_neg (by omega), if_neg (by omega), if_pos q]; simp (disch := omega) only [gu_ne, gu_at]
        · rw [if_pos rfl]; simp (disch := omega) only [gu_ne, gu_at]
      · rw [if_neg (by omega), if_neg (by omega), if_neg (by omega), if_neg (by omega), if_neg (by omega), if_neg q, if_neg k3]
        simp (disch := omega) only [gu_ne]
        exact hv (by omega)
/-- behind a change of the ditch alone -/
theorem PC.ld {τ : Nat → Nat → Int32} {g' : Gr} {nc' : Nat} (hng : ng ≤ 6) (hnd : nd ≤ 12) (f : PC σ τ) : PC σ (LD τ 1 g' ng nd nc') := fun a ha => by
  rw [← f a ha]
  funext k
  exact LD_out hng hnd (by omega)
theorem PC.out {τ τ' : Nat → Nat → Int32} (f : PC σ τ) (f2 : Fout 1 τ τ') : PC σ τ' := fun a ha => (f2 a (by omega)).trans (f a ha)
theorem Gd_keep {s : Sy} {H : List Sy} {r : Option Sy × Int32 × Int32 × (Nat → Nat) × Nat × Int32} (hG : Gd (s, H, r)) : Gd (s, (s :: H).take 8, r) := by
  refine ⟨hG.1, fun t ht => ?_, hG.2.2⟩
  have := List.mem_of_mem_take ht
  rcases List.mem_cons.mp this with rfl | h
  · exact hG.1
  · exact hG.2.1 t h
theorem CI_ld {H : List Sy} {r : Option Sy × Int32 × Int32 × (Nat → Nat) × Nat × Int32} {g' : Gr} {h' : Nat} (hG : Gd ((g, oh, ng, nd, nc, h), H, r)) (hC : CI σ ((g, oh, ng, nd, nc, h), H, r)) : CI (LD σ 1 g' ng nd nc) ((g', oh, ng, nd, nc, h'), H, r) := by
  have hB : Cb g ng nd nc h := hG.1
  exact CI_curF (s' := (g', oh, ng, nd, nc, h')) hG hC (RD.ld hB.1 hC.1.2) (Fout.ld hB.1 hB.2.1 (fun _ _ => rfl))
/-- behind a note -/
theorem CI_note {s : Sy} {H : List Sy} {sv : Option Sy} {y d : Int32} {r : (Nat → Nat) × Nat × Int32} {a : Nat} {b : Int32} (hG : Gd (s, H, sv, y, d, r)) (hC : CI σ (s, H, sv, y, d, r)) : CI (NT σ a b) (s, H, sv, jI a, b, r) := by
  have e : ∀ x, x ≠ 367 → NT σ a b x = σ x := fun x hx => by
    unfold NT; funext k; rw [u2_na hx, u2_na hx]
  obtain ⟨c1, ⟨p, p1, p2, p3, p4, p5⟩, c3, c4, c5, c6, c7, c8⟩ := hC
  obtain ⟨d1, d2, d3⟩ := hG
  refine ⟨RDs_cg d1 c1 (fun a h1 h2 => e a (by omega)), ⟨p, p1, p2, ?_, ?_, fun j t hj => ?_⟩, ?_, fun t ht => RDs_cg (d3 t ht) (c4 t ht) (fun a h1 h2 => e a (by omega)), ?_, ?_, INC_cg c7 ?_ ?_, ?_⟩
  · rw [e 94 (by omega)]; exact p3
  · rw [e 94 (by omega)]; exact p4
  · have hb := kD_b (i := (p + 7 - j) % 8) (by omega)
    exact RDs_cg (d2 t (List.mem_of_getElem? hj)) (p5 j t hj) (fun a h1 h2 => e a (by omega))
  · rw [e 0 (by omega)]; exact c3
  · unfold NT; rw [u2_nk (by decide), u2_at]
  · unfold NT; rw [u2_at]
  · rw [e 344 (by omega)]
  · exact e 345 (by omega)
  · rw [e 0 (by omega)]; exact c8
theorem PC.note {a : Nat} {b : Int32} : PC σ (NT σ a b) := fun x hx => by
  unfold NT; funext k; rw [u2_na (by omega), u2_na (by omega)]
theorem NT_of {a : Nat} {b : Int32} (hR : LD σ o g ng nd nc = σ) (ho : DI o) (hng : ng ≤ 6) (hnd : nd ≤ 12) : LD (NT σ a b) o g ng nd nc = NT σ a b := by
  unfold NT
  rw [← LD_urf ho hng hnd, ← LD_urf ho hng hnd, hR]
end
