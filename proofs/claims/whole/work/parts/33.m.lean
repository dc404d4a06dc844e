/-! THE REFERENCE: rows copied, and what is kept -/
set_option maxRecDepth 16384
section
variable {K : Ou → Me → Prop} {Ln : Nat} {σ : Nat → Nat → Int32} {g : Gr} {lo : Nat → Nat → Int64} {db : Nat → Nat → UInt64} {μ : Me}
/-- n numbers of src from p on laid into dst from q on -/
def cpy (σ : Nat → Nat → Int32) (src p dst q n : Nat) : Nat → Nat → Int32 := fun a k => if a = dst ∧ q ≤ k ∧ k < q + n then σ src (p + (k - q)) else σ a k
theorem cpy_0 {src p dst q : Nat} : cpy σ src p dst q 0 = σ := by
  funext a k
  unfold cpy
  rw [if_neg (by omega)]
theorem cpy_s {src p dst q n : Nat} (h : src ≠ dst) : u2 (cpy σ src p dst q n) dst (q + n) (cpy σ src p dst q n src (p + n)) = cpy σ src p dst q (n + 1) := by
  funext a k
  have e : cpy σ src p dst q n src (p + n) = σ src (p + n) := if_neg (fun e => h e.1)
  rw [e]
  unfold u2 cpy
  by_cases h1 : a = dst ∧ k = q + n
  · rw [if_pos h1, if_pos (by omega), show p + (k - q) = p + n by omega]
  · rw [if_neg h1]
    by_cases h2 : a = dst ∧ q ≤ k ∧ k < q + n
    · rw [if_pos h2, if_pos (by omega)]
    · rw [if_neg h2, if_neg (by omega)]
theorem m_copies {src p dst q n1 n2 : Nat} (h1 : KD Ln src = kI n1) (h2 : KD Ln dst = kI n2) (hs : src ≠ dst) (hp : p + 199 ≤ n1) (hq : q + 199 ≤ n2) (hn1 : n1 < 10000) (hn2 : n2 < 10000) :
    Ev 116 (0, [.ref src, .int (jI p), .ref dst, .int (jI q), .null], [], 0, 0, MM Ln σ lo db) K ↔ K (.inl none) (MM Ln (cpy σ src p dst q 199) lo db) := by
  have e0 : MM Ln σ lo db = MM Ln (cpy σ src p dst q 0) lo db := by rw [cpy_0]
  have step : ∀ i, i ≤ 199 → (Ev 116 (0, [.ref src, .int (jI p), .ref dst, .int (jI q), .null], [], 0, 0, MM Ln σ lo db) K ↔ Ev 116 (3, [.ref src, .int (jI p), .ref dst, .int (jI q), .int (jI i)], [], 0, 0, MM Ln (cpy σ src p dst q i) lo db) K) := by
    intro i
    induction i with
    | zero =>
      intro _
      rw [e0]
      simp only [s_116_0, s_116_1, s_116_5, s_116_8, s_116_11, s_116_12, s_116_13, s_116_15, s_116_16, s_116_17, s_116_18, s_116_20, s_116_21, s_116_22, s_116_23, s_116_26, s_116_29]
    | succ i ih =>
      intro hi
      rw [ih (by omega), s_116_3]
      simp (disch := first | omega | assumption) only [s_116_0, s_116_1, s_116_5, s_116_8, s_116_11, s_116_12, s_116_13, s_116_15, s_116_16, s_116_17, s_116_18, s_116_20, s_116_21, s_116_22, s_116_23, s_116_26, s_116_29, jI_mul, jI_add, jI_tnc, jI_ixT, true_and, and_true, bZ_0, bZ_1, bZ_b, jI_nz, jI_div, jI_rem, jI_mod, Nat.add_zero, bI_if, not_false_iff, if_true, if_false, eq_self, jI_le]
      rw [if_neg (by omega), ← cpy_s hs]
  rw [step 199 (by omega), s_116_3]
  simp (disch := first | omega | assumption) only [s_116_0, s_116_1, s_116_5, s_116_8, s_116_11, s_116_12, s_116_13, s_116_15, s_116_16, s_116_17, s_116_18, s_116_20, s_116_21, s_116_22, s_116_23, s_116_26, s_116_29, jI_mul, jI_add, jI_tnc, jI_ixT, true_and, and_true, bZ_0, bZ_1, bZ_b, jI_nz, jI_div, jI_rem, jI_mod, Nat.add_zero, bI_if, not_false_iff, if_true, if_false, eq_self, jI_le, Nat.le_refl]
/-- the kept rows one place down -/
def shK (σ : Nat → Nat → Int32) (n : Nat) : Nat → Nat → Int32 := fun a k => if a = 370 ∧ k < n then σ 370 (k + 199) else σ a k
theorem shK_0 : shK σ 0 = σ := by
  funext a k
  unfold shK
  rw [if_neg (by omega)]
theorem shK_s {n : Nat} : u2 (shK σ n) 370 n (shK σ n 370 (n + 199)) = shK σ (n + 1) := by
  funext a k
  have e : shK σ n 370 (n + 199) = σ 370 (n + 199) := if_neg (by omega)
  rw [e]
  unfold u2 shK
  by_cases h1 : a = 370 ∧ k = n
  · rw [if_pos h1, if_pos (by omega), h1.2]
  · rw [if_neg h1]
    by_cases h2 : a = 370 ∧ k < n
    · rw [if_pos h2, if_pos (by omega)]
    · rw [if_neg h2, if_neg (by omega)]
/-- what is kept behind a change: ch rows were -/
def kpW (σ : Nat → Nat → Int32) (src ch : Nat) : Nat → Nat → Int32 :=
  if ch = 8 then u2 (cpy (u2 (shK σ 1393) 368 6 (jI 7)) src 0 370 1393 199) 368 6 (jI 8)
  else u2 (cpy σ src 0 370 (199 * ch) 199) 368 6 (jI (ch + 1))
theorem m_keeps {src ch : Nat} (h1 : KD Ln src = kI 199) (hs : src ≠ 370) (hs2 : src ≠ 368) (hw : σ 368 7 = jI 0) (hc : σ 368 6 = jI ch) (hch : ch ≤ 8) :
    Ev 117 (0, [.ref 368, .ref src, .null], [], 0, 0, MM Ln σ lo db) K ↔ K (.inl none) (MM Ln (kpW σ src ch) lo db) := by
  have hcp : ∀ {σ : Nat → Nat → Int32} {q : Nat} {K : Ou → Me → Prop}, q + 199 ≤ 1592 → (Ev 116 (0, [.ref src, .int (jI 0), .ref 370, .int (jI q), .null], [], 0, 0, MM Ln σ lo db) K ↔ K (.inl none) (MM Ln (cpy σ src 0 370 q 199) lo db)) :=
    fun hq => m_copies h1 KD_M1 hs (by omega) hq (by omega) (by omega)
  have u6 : ∀ {σ : Nat → Nat → Int32} {q : Nat}, cpy σ src 0 370 q 199 368 6 = σ 368 6 := fun {σ q} => if_neg (by omega)
  unfold kpW
  by_cases h8 : ch = 8
  · subst h8
    rw [if_pos rfl]
    simp (disch := omega) only [s_117_0, s_117_1, s_117_4, s_117_7, s_117_8, s_117_9, s_117_12, s_117_14, s_117_17, s_117_18, s_117_20, s_117_23, s_117_26, s_117_27, s_117_30, s_117_31, s_117_32, s_117_35, s_117_36, s_117_39, s_117_40, s_117_41, s_117_42, s_117_45, s_117_48, s_117_49, s_117_50, s_117_53, s_117_54, s_117_55, s_117_58, s_117_59, s_117_60, s_117_61, s_117_64, s_117_67, s_117_68, s_117_71, s_117_72, r_117_72, s_117_75, s_117_76, s_117_77, s_117_80, s_117_81, s_117_82, s_117_85, jI_mul, jI_add, jI_tnc, jI_ixT, true_and, and_true, bZ_0, bZ_1, bZ_b, jI_nz, jI_div, jI_rem, jI_mod, Nat.add_zero, bI_if, not_false_iff, if_true, if_false, eq_self, hw, hc, if_true]
    have step : ∀ i, i ≤ 1393 → (Ev 117 (19, [.ref 368, .ref src, .int (jI 0)], [], 0, 0, MM Ln σ lo db) K ↔ Ev 117 (19, [.ref 368, .ref src, .int (jI i)], [], 0, 0, MM Ln (shK σ i) lo db) K) := by
      intro i
      induction i with
      | zero => intro _; rw [shK_0]
      | succ i ih =>
        intro hi
        rw [ih (by omega), s_117_19]
        simp (disch := omega) only [s_117_0, s_117_1, s_117_4, s_117_7, s_117_8, s_117_9, s_117_12, s_117_14, s_117_17, s_117_18, s_117_20, s_117_23, s_117_26, s_117_27, s_117_30, s_117_31, s_117_32, s_117_35, s_117_36, s_117_39, s_117_40, s_117_41, s_117_42, s_117_45, s_117_48, s_117_49, s_117_50, s_117_53, s_117_54, s_117_55, s_117_58, s_117_59, s_117_60, s_117_61, s_117_64, s_117_67, s_117_68, s_117_71, s_117_72, r_117_72, s_117_75, s_117_76, s_117_77, s_117_80, s_117_81, s_117_82, s_117_85, jI_mul, jI_add, jI_tnc, jI_ixT, true_and, and_true, bZ_0, bZ_1, bZ_b, jI_nz, jI_div, jI_rem, jI_mod, Nat.add_zero, bI_if, not_false_iff, if_true, if_false, eq_self, jI_le]
        rw [if_neg (by omega), ← shK_s]
    have c6 : shK σ 1393 368 6 = jI 8 := (if_neg (by omega)).trans hc
    rw [step 1393 (by omega), s_117_19]
    simp (disch := omega) only [s_117_0, s_117_1, s_117_4, s_117_7, s_117_8, s_117_9, s_117_12, s_117_14, s_117_17, s_117_18, s_117_20, s_117_23, s_117_26, s_117_27, s_117_30, s_117_31, s_117_32, s_117_35, s_117_36, s_117_39, s_117_40, s_117_41, s_117_42, s_117_45, s_117_48, s_117_49, s_117_50, s_117_53, s_117_54, s_117_55, s_117_58, s_117_59, s_117_60, s_117_61, s_117_64, s_117_67, s_117_68, s_117_71, s_117_72, r_117_72, s_117_75, s_117_76, s_117_77, s_117_80, s_117_81, s_117_82, s_117_85, jI_mul, jI_add, jI_tnc, jI_ixT, true_and, and_true, bZ_0, bZ_1, bZ_b, jI_nz, jI_div, jI_rem, jI_mod, Nat.add_zero, bI_if, not_false_iff, if_true, if_false, eq_self, jI_le, Nat.le_refl, c6, jI_sub, u2_at, hcp, u6]
  · have n8 : (jI ch = jI 8) = False := eq_false (fun e => h8 ((jI_inj (by omega) (by omega)).mp e))
    rw [if_neg h8]
    simp (disch := omega) only [s_117_0, s_117_1, s_117_4, s_117_7, s_117_8, s_117_9, s_117_12, s_117_14, s_117_17, s_117_18, s_117_20, s_117_23, s_117_26, s_117_27, s_117_30, s_117_31, s_117_32, s_117_35, s_117_36, s_117_39, s_117_40, s_117_41, s_117_42, s_117_45, s_117_48, s_117_49, s_117_50, s_117_53, s_117_54, s_117_55, s_117_58, s_117_59, s_117_60, s_117_61, s_117_64, s_117_67, s_117_68, s_117_71, s_117_72, r_117_72, s_117_75, s_117_76, s_117_77, s_117_80, s_117_81, s_117_82, s_117_85, jI_mul, jI_add, jI_tnc, jI_ixT, true_and, and_true, bZ_0, bZ_1, bZ_b, jI_nz, jI_div, jI_rem, jI_mod, Nat.add_zero, bI_if, not_false_iff, if_true, if_false, eq_self, hw, hc, n8, u2_at, hcp, u6]
/-- behind a change's keeping: wi = within a text -/
def kpB (σ : Nat → Nat → Int32) (g : Gr) (ch : Nat) (wi : Bool) : Nat → Nat → Int32 := if wi = true then σ else kpW (MG σ g) 369 ch
theorem cpy_o {src p dst q n a : Nat} (h : a ≠ dst) : cpy σ src p dst q n a = σ a := by
  funext k; exact if_neg (fun e => h e.1)
theorem kpW_369 {src ch : Nat} : kpW σ src ch 369 = σ 369 := by
  funext k
  unfold kpW
  split
  · rw [u2_na (by decide), cpy_o (by decide), u2_na (by decide)]
    exact if_neg (by omega)
  · rw [u2_na (by decide), cpy_o (by decide)]
theorem m_keepsB {ch : Nat} {wi : Bool} (hw : σ 368 7 = bI (wi = true)) (hc : σ 368 6 = jI ch) (hch : ch ≤ 8) :
    Ev 117 (0, [.ref 368, .ref 369, .null], [], 0, 0, MM Ln (MG σ g) lo db) K ↔ K (.inl none) (MM Ln (MG (kpB σ g ch wi) g) lo db) := by
  cases wi with
  | true =>
    have hw : MG σ g 368 7 = jI 1 := hw
    have hn : (jI 1 = jI 0) = False := by decide
    simp only [s_117_0, s_117_1, s_117_4, s_117_7, s_117_8, s_117_9, s_117_12, s_117_14, s_117_17, s_117_18, s_117_20, s_117_23, s_117_26, s_117_27, s_117_30, s_117_31, s_117_32, s_117_35, s_117_36, s_117_39, s_117_40, s_117_41, s_117_42, s_117_45, s_117_48, s_117_49, s_117_50, s_117_53, s_117_54, s_117_55, s_117_58, s_117_59, s_117_60, s_117_61, s_117_64, s_117_67, s_117_68, s_117_71, s_117_72, r_117_72, s_117_75, s_117_76, s_117_77, s_117_80, s_117_81, s_117_82, s_117_85, jI_mul, jI_add, jI_tnc, jI_ixT, true_and, and_true, bZ_0, bZ_1, bZ_b, jI_nz, jI_div, jI_rem, jI_mod, Nat.add_zero, bI_if, not_false_iff, if_true, if_false, eq_self, hw, hn, kpB]
  | false =>
    have hw : MG σ g 368 7 = jI 0 := hw
    rw [m_keeps KD_M0 (by decide) (by decide) hw hc hch]
    have e : kpB σ g ch false = kpW (MG σ g) 369 ch := rfl
    have e2 : MG (kpW (MG σ g) 369 ch) g = kpW (MG σ g) 369 ch := by
      have := MG_self (kpW (MG σ g) 369 ch)
      rwa [kpW_369] at this
    rw [e, e2]
theorem m_fails {v : Int32} : Ev 111 (0, [.ref 368, .int v], [], 0, 0, MM Ln (MG σ g) lo db) K ↔ K (.inl (some (.int (bI (jI 0 < v))))) (MM Ln (MG (u2 σ 368 8 v) g) lo db) := by
  simp (disch := omega) only [s_111_0, s_111_1, s_111_2, s_111_5, s_111_6, s_111_9, s_111_10, s_111_13, s_111_14, jI_mul, jI_add, jI_tnc, jI_ixT, true_and, and_true, bZ_0, bZ_1, bZ_b, jI_nz, jI_div, jI_rem, jI_mod, Nat.add_zero, bI_if, not_false_iff, if_true, if_false, eq_self, MG_uo, ← Int32.not_lt]
  unfold bI
  by_cases h : jI 0 < v <;> simp only [h, not_true, not_false_iff, if_true, if_false]
theorem m_fail0 : Ev 111 (0, [.ref 368, .int (jI 0)], [], 0, 0, MM Ln (MG σ g) lo db) K ↔ K (.inl (some (.int (jI 0)))) (MM Ln (MG (u2 σ 368 8 (jI 0)) g) lo db) := m_fails
theorem m_fail1 {n : Nat} (h0 : 0 < n) (hn : n < 2147483648) : Ev 111 (0, [.ref 368, .int (jI n)], [], 0, 0, MM Ln (MG σ g) lo db) K ↔ K (.inl (some (.int (jI 1)))) (MM Ln (MG (u2 σ 368 8 (jI n)) g) lo db) := by
  rw [m_fails]
  unfold bI
  rw [if_pos ((jI_lt (by omega) hn).mpr h0)]
theorem m_refuses {p r o : Int32} : Ev 112 (0, [.ref 368, .int p, .int r, .int o], [], 0, 0, MM Ln (MG σ g) lo db) K ↔ K (.inl (some (.int (jI 0)))) (MM Ln (MG (u2 (u2 (u2 (u2 σ 368 8 p) 368 9 (jI 1)) 368 10 r) 368 11 o) g) lo db) := by
  simp (disch := omega) only [s_112_0, s_112_1, s_112_2, s_112_5, s_112_6, s_112_7, s_112_10, s_112_11, s_112_12, s_112_15, s_112_16, s_112_17, s_112_20, s_112_21, jI_mul, jI_add, jI_tnc, jI_ixT, true_and, and_true, bZ_0, bZ_1, bZ_b, jI_nz, jI_div, jI_rem, jI_mod, Nat.add_zero, bI_if, not_false_iff, if_true, if_false, eq_self, MG_uo]
/-- v is one of the first n -/
abbrev hs (v : Int32) (n : Nat) : Prop := 0 ≤ v.toInt ∧ v.toInt < n
abbrev rng (v : Int32) (a b : Nat) : Prop := ¬ v < jI a ∧ ¬ jI b < v
theorem hs_iff {v : Int32} {n : Nat} (hn : n ≤ 12) : (¬ v < jI 0 ∧ ¬ jI n - jI 1 < v) ↔ hs v n := by
  rw [Int32.lt_iff_toInt_lt, Int32.lt_iff_toInt_lt, jI_toInt (by decide)]
  have : (jI n - jI 1).toInt = (n : Int) - 1 := by
    rcases Nat.eq_zero_or_pos n with rfl | h
    · rfl
    · rw [jI_sub h, jI_toInt (by omega)]; omega
  rw [this]
  omega
theorem hs_jI {n a : Nat} (hn : n ≤ 12) (ha : a < 2147483648) : hs (jI a) n ↔ a < n := by
  rw [hs, jI_toInt ha]; omega
theorem hs_of {v : Int32} {n : Nat} (h : hs v n) (hn : n ≤ 12) : ∃ k, k < n ∧ v = jI k := by
  obtain ⟨k, hk, rfl⟩ := jI_of (v := v) (by rw [Int32.le_iff_toInt_le]; exact h.1)
  exact ⟨k, (hs_jI hn hk).mp h, rfl⟩
theorem bI_iff {p q : Prop} [Decidable p] [Decidable q] (h : p ↔ q) : bI p = bI q := by
  unfold bI
  by_cases hp : p
  · rw [if_pos hp, if_pos (h.mp hp)]
  · rw [if_neg hp, if_neg (fun e => hp (h.mpr e))]
theorem m_isGate {v : Int32} {ng : Nat} (hng : ng ≤ 6) (h3 : g 3 = jI ng) : Ev 118 (0, [.ref 368, .int v], [], 0, 0, MM Ln (MG σ g) lo db) K ↔ K (.inl (some (.int (bI (hs v ng))))) (MM Ln (MG σ g) lo db) := by
  simp (disch := omega) only [s_118_0, s_118_1, s_118_2, s_118_3, s_118_6, s_118_7, s_118_8, s_118_9, s_118_10, r_118_10, s_118_13, jI_mul, jI_add, jI_tnc, jI_ixT, true_and, and_true, bZ_0, bZ_1, bZ_b, jI_nz, jI_div, jI_rem, jI_mod, Nat.add_zero, bI_if, not_false_iff, if_true, if_false, eq_self, MG_g, h3, m_in]
  rw [bI_iff (hs_iff (by omega))]
theorem m_isGarden {v : Int32} {nd : Nat} (hnd : nd ≤ 12) (h4 : g 4 = jI nd) : Ev 119 (0, [.ref 368, .int v], [], 0, 0, MM Ln (MG σ g) lo db) K ↔ K (.inl (some (.int (bI (hs v nd))))) (MM Ln (MG σ g) lo db) := by
  simp (disch := omega) only [s_119_0, s_119_1, s_119_2, s_119_3, s_119_6, s_119_7, s_119_8, s_119_9, s_119_10, r_119_10, s_119_13, jI_mul, jI_add, jI_tnc, jI_ixT, true_and, and_true, bZ_0, bZ_1, bZ_b, jI_nz, jI_div, jI_rem, jI_mod, Nat.add_zero, bI_if, not_false_iff, if_true, if_false, eq_self, MG_g, h4, m_in]
  rw [bI_iff (hs_iff (by omega))]
section
variable {ch : Nat} {wi : Bool}
theorem kp7 {v : Int32} (hw : σ 368 7 = bI (wi = true)) : u2 σ 368 8 v 368 7 = bI (wi = true) := (u2_nk (by decide)).trans hw
theorem kp6 {v : Int32} (hc : σ 368 6 = jI ch) : u2 σ 368 8 v 368 6 = jI ch := (u2_nk (by decide)).trans hc
/-- the memory behind a change that was kept -/
def KB (σ : Nat → Nat → Int32) (g : Gr) (ch : Nat) (wi : Bool) : Nat → Nat → Int32 := kpB (u2 σ 368 8 (jI 0)) g ch wi
theorem m_keepsC (hw : σ 368 7 = bI (wi = true)) (hc : σ 368 6 = jI ch) (hch : ch ≤ 8) {K : Ou → Me → Prop} :
    Ev 117 (0, [.ref 368, .ref 369, .null], [], 0, 0, MM Ln (MG (u2 σ 368 8 (jI 0)) g) lo db) K ↔ K (.inl none) (MM Ln (MG (KB σ g ch wi) g) lo db) := m_keepsB (kp7 hw) (kp6 hc) hch
theorem m_inflow {w : Int32} (hw : σ 368 7 = bI (wi = true)) (hc : σ 368 6 = jI ch) (hch : ch ≤ 8) : Ev 124 (0, [.ref 368, .int w, .null], [], 0, 0, MM Ln (MG σ g) lo db) K ↔
    if rng w 0 200 then K (.inl (some (.int (g 1)))) (MM Ln (MG (KB σ g ch wi) (gu g 1 w)) lo db) else K (.inl (some (.int (jI 0)))) (MM Ln (MG (u2 σ 368 8 (jI 1)) g) lo db) := by
  simp (disch := omega) only [s_124_0, s_124_1, s_124_2, s_124_3, s_124_6, r_124_6, s_124_9, s_124_12, s_124_13, s_124_16, s_124_17, r_124_17, s_124_20, s_124_23, s_124_24, s_124_25, s_124_26, s_124_27, s_124_30, r_124_30, s_124_33, s_124_34, s_124_37, s_124_38, s_124_39, s_124_40, s_124_41, s_124_44, s_124_45, s_124_46, s_124_47, s_124_48, jI_mul, jI_add, jI_tnc, jI_ixT, true_and, and_true, bZ_0, bZ_1, bZ_b, jI_nz, jI_div, jI_rem, jI_mod, Nat.add_zero, bI_if, not_false_iff, if_true, if_false, eq_self, MG_g, m_in, m_fail0, m_fail1, m_keepsC hw hc hch, MG_u]
theorem m_fine {w : Int32} (hw : σ 368 7 = bI (wi = true)) (hc : σ 368 6 = jI ch) (hch : ch ≤ 8) : Ev 125 (0, [.ref 368, .int w, .null], [], 0, 0, MM Ln (MG σ g) lo db) K ↔
    if rng w 1 30 then K (.inl (some (.int (g 2)))) (MM Ln (MG (KB σ g ch wi) (gu g 2 w)) lo db) else K (.inl (some (.int (jI 0)))) (MM Ln (MG (u2 σ 368 8 (jI 1)) g) lo db) := by
  simp (disch := omega) only [s_125_0, s_125_1, s_125_2, s_125_3, s_125_5, r_125_5, s_125_8, s_125_11, s_125_12, s_125_15, s_125_16, r_125_16, s_125_19, s_125_22, s_125_23, s_125_24, s_125_25, s_125_26, s_125_29, r_125_29, s_125_32, s_125_33, s_125_36, s_125_37, s_125_38, s_125_39, s_125_40, s_125_43, s_125_44, s_125_45, s_125_46, s_125_47, jI_mul, jI_add, jI_tnc, jI_ixT, true_and, and_true, bZ_0, bZ_1, bZ_b, jI_nz, jI_div, jI_rem, jI_mod, Nat.add_zero, bI_if, not_false_iff, if_true, if_false, eq_self, MG_g, m_in, m_fail0, m_fail1, m_keepsC hw hc hch, MG_u]
theorem m_pay {v w : Int32} {nd : Nat} (hnd : nd ≤ 12) (h4 : g 4 = jI nd) (hw : σ 368 7 = bI (wi = true)) (hc : σ 368 6 = jI ch) (hch : ch ≤ 8) (F1 : ¬ hs v nd → K (.inl (some (.int (jI 0)))) (MM Ln (MG (u2 σ 368 8 (jI 1)) g) lo db))
    (F2 : hs v nd → ¬ rng w 1 99 → K (.inl (some (.int (jI 0)))) (MM Ln (MG (u2 σ 368 8 (jI 2)) g) lo db))
    (H : ∀ k, k < nd → v = jI k → rng w 1 99 → K (.inl (some (.int (g (75 + 9 * k + 3) + w)))) (MM Ln (MG (KB σ g ch wi) (gu g (75 + 9 * k + 3) (g (75 + 9 * k + 3) + w))) lo db)) : Ev 132 (0, [.ref 368, .int v, .int w], [], 0, 0, MM Ln (MG σ g) lo db) K := by
  simp (disch := omega) only [s_132_0, s_132_1, s_132_2, s_132_3, r_132_3, s_132_6, s_132_9, s_132_10, s_132_13, s_132_14, s_132_15, s_132_17, r_132_17, s_132_20, s_132_23, s_132_24, s_132_27, s_132_28, r_132_28, s_132_31, s_132_34, s_132_35, s_132_36, s_132_37, s_132_38, s_132_41, r_132_41, s_132_44, s_132_45, s_132_46, s_132_47, s_132_48, s_132_49, s_132_50, r_132_50, s_132_53, s_132_54, s_132_55, r_132_55, s_132_58, s_132_59, s_132_60, s_132_61, r_132_61, s_132_64, jI_mul, jI_add, jI_tnc, jI_ixT, true_and, and_true, bZ_0, bZ_1, bZ_b, jI_nz, jI_div, jI_rem, jI_mod, Nat.add_zero, bI_if, not_false_iff, if_true, if_false, eq_self, MG_g, m_in, m_isGarden hnd h4]
  by_cases h1 : hs v nd
  · obtain ⟨k, hk, rfl⟩ := hs_of h1 hnd
    rw [if_pos h1]
    by_cases h2 : rng w 1 99
    · rw [if_pos h2]
      simp (disch := omega) only [s_132_0, s_132_1, s_132_2, s_132_3, r_132_3, s_132_6, s_132_9, s_132_10, s_132_13, s_132_14, s_132_15, s_132_17, r_132_17, s_132_20, s_132_23, s_132_24, s_132_27, s_132_28, r_132_28, s_132_31, s_132_34, s_132_35, s_132_36, s_132_37, s_132_38, s_132_41, r_132_41, s_132_44, s_132_45, s_132_46, s_132_47, s_132_48, s_132_49, s_132_50, r_132_50, s_132_53, s_132_54, s_132_55, r_132_55, s_132_58, s_132_59, s_132_60, s_132_61, r_132_61, s_132_64, jI_mul, jI_add, jI_tnc, jI_ixT, true_and, and_true, bZ_0, bZ_1, bZ_b, jI_nz, jI_div, jI_rem, jI_mod, Nat.add_zero, bI_if, not_false_iff, if_true, if_false, eq_self, MG_g, m_fail0, m_keepsC hw hc hch, MG_u, m_ofN, m_lays, gu_at]
      exact H k hk rfl h2
    · rw [if_neg h2]
      simp (disch := omega) only [s_132_0, s_132_1, s_132_2, s_132_3, r_132_3, s_132_6, s_132_9, s_132_10, s_132_13, s_132_14, s_132_15, s_132_17, r_132_17, s_132_20, s_132_23, s_132_24, s_132_27, s_132_28, r_132_28, s_132_31, s_132_34, s_132_35, s_132_36, s_132_37, s_132_38, s_132_41, r_132_41, s_132_44, s_132_45, s_132_46, s_132_47, s_132_48, s_132_49, s_132_50, r_132_50, s_132_53, s_132_54, s_132_55, r_132_55, s_132_58, s_132_59, s_132_60, s_132_61, r_132_61, s_132_64, jI_mul, jI_add, jI_tnc, jI_ixT, true_and, and_true, bZ_0, bZ_1, bZ_b, jI_nz, jI_div, jI_rem, jI_mod, Nat.add_zero, bI_if, not_false_iff, if_true, if_false, eq_self, m_fail1]
      exact F2 h1 h2
  · rw [if_neg h1]
    simp (disch := omega) only [s_132_0, s_132_1, s_132_2, s_132_3, r_132_3, s_132_6, s_132_9, s_132_10, s_132_13, s_132_14, s_132_15, s_132_17, r_132_17, s_132_20, s_132_23, s_132_24, s_132_27, s_132_28, r_132_28, s_132_31, s_132_34, s_132_35, s_132_36, s_132_37, s_132_38, s_132_41, r_132_41, s_132_44, s_132_45, s_132_46, s_132_47, s_132_48, s_132_49, s_132_50, r_132_50, s_132_53, s_132_54, s_132_55, r_132_55, s_132_58, s_132_59, s_132_60, s_132_61, r_132_61, s_132_64, jI_mul, jI_add, jI_tnc, jI_ixT, true_and, and_true, bZ_0, bZ_1, bZ_b, jI_nz, jI_div, jI_rem, jI_mod, Nat.add_zero, bI_if, not_false_iff, if_true, if_false, eq_self, m_fail1]
    exact F1 h1
theorem m_thief {v : Int32} {p : Prop} [Decidable p] {nd : Nat} (hnd : nd ≤ 12) (h4 : g 4 = jI nd) (hw : σ 368 7 = bI (wi = true)) (hc : σ 368 6 = jI ch) (hch : ch ≤ 8) (F1 : ¬ hs v nd → K (.inl (some (.int (jI 0)))) (MM Ln (MG (u2 σ 368 8 (jI 1)) g) lo db))
    (H : ∀ k, k < nd → v = jI k → K (.inl (some (.int (bI (g (75 + 9 * k + 5) = jI 1))))) (MM Ln (MG (KB σ g ch wi) (gu g (75 + 9 * k + 5) (bI p))) lo db)) : Ev 133 (0, [.ref 368, .int v, .int (bI p), .null], [], 0, 0, MM Ln (MG σ g) lo db) K := by
  simp (disch := omega) only [s_133_0, s_133_1, s_133_2, s_133_3, r_133_3, s_133_6, s_133_9, s_133_10, s_133_13, s_133_14, r_133_14, s_133_17, s_133_20, s_133_21, s_133_22, s_133_23, s_133_24, s_133_27, r_133_27, s_133_30, s_133_31, s_133_32, s_133_33, r_133_33, s_133_36, s_133_37, s_133_40, s_133_41, s_133_44, s_133_45, s_133_46, s_133_47, s_133_48, s_133_49, s_133_50, s_133_53, s_133_54, s_133_57, s_133_58, r_133_58, s_133_61, s_133_62, jI_mul, jI_add, jI_tnc, jI_ixT, true_and, and_true, bZ_0, bZ_1, bZ_b, jI_nz, jI_div, jI_rem, jI_mod, Nat.add_zero, bI_if, not_false_iff, if_true, if_false, eq_self, MG_g, m_in, m_isGarden hnd h4]
  by_cases h1 : hs v nd
  · obtain ⟨k, hk, rfl⟩ := hs_of h1 hnd
    rw [if_pos h1]
    simp (disch := omega) only [s_133_0, s_133_1, s_133_2, s_133_3, r_133_3, s_133_6, s_133_9, s_133_10, s_133_13, s_133_14, r_133_14, s_133_17, s_133_20, s_133_21, s_133_22, s_133_23, s_133_24, s_133_27, r_133_27, s_133_30, s_133_31, s_133_32, s_133_33, r_133_33, s_133_36, s_133_37, s_133_40, s_133_41, s_133_44, s_133_45, s_133_46, s_133_47, s_133_48, s_133_49, s_133_50, s_133_53, s_133_54, s_133_57, s_133_58, r_133_58, s_133_61, s_133_62, jI_mul, jI_add, jI_tnc, jI_ixT, true_and, and_true, bZ_0, bZ_1, bZ_b, jI_nz, jI_div, jI_rem, jI_mod, Nat.add_zero, bI_if, not_false_iff, if_true, if_false, eq_self, MG_g, m_fail0, m_keepsC hw hc hch, MG_u, m_ofN, m_lays, gu_at]
    have H := H k hk rfl
    unfold bI at H
    by_cases q1 : g (75 + 9 * k + 5) = jI 1 <;> by_cases q2 : p <;> simp only [q1, q2, if_true, if_false] at H ⊢ <;> exact H
  · rw [if_neg h1]
    simp (disch := omega) only [s_133_0, s_133_1, s_133_2, s_133_3, r_133_3, s_133_6, s_133_9, s_133_10, s_133_13, s_133_14, r_133_14, s_133_17, s_133_20, s_133_21, s_133_22, s_133_23, s_133_24, s_133_27, r_133_27, s_133_30, s_133_31, s_133_32, s_133_33, r_133_33, s_133_36, s_133_37, s_133_40, s_133_41, s_133_44, s_133_45, s_133_46, s_133_47, s_133_48, s_133_49, s_133_50, s_133_53, s_133_54, s_133_57, s_133_58, r_133_58, s_133_61, s_133_62, jI_mul, jI_add, jI_tnc, jI_ixT, true_and, and_true, bZ_0, bZ_1, bZ_b, jI_nz, jI_div, jI_rem, jI_mod, Nat.add_zero, bI_if, not_false_iff, if_true, if_false, eq_self, m_fail1]
    exact F1 h1
def gateS (g : Gr) (k : Nat) (w : Int32) : Gr := gu (gu (itN 10 (fun i g => gu g (15 + 10 * k + i) (jI 0)) (gu g 3 (jI (k + 1)))) (15 + 10 * k) w) (15 + 10 * k + 1) (jI 5)
theorem m_gate {w : Int32} {ng : Nat} (hng : ng ≤ 6) (h3 : g 3 = jI ng) (hw : σ 368 7 = bI (wi = true)) (hc : σ 368 6 = jI ch) (hch : ch ≤ 8) (F1 : ¬ rng w 1 60 → K (.inl (some (.int (jI 0)))) (MM Ln (MG (u2 σ 368 8 (jI 1)) g) lo db))
    (F2 : rng w 1 60 → ng = 6 → K (.inl (some (.int (jI 0)))) (MM Ln (MG (u2 (u2 (u2 (u2 (u2 σ 368 8 (jI 0)) 368 8 (jI 2)) 368 9 (jI 1)) 368 10 (jI 1)) 368 11 (jI 6)) g) lo db))
    (H : rng w 1 60 → ng < 6 → K (.inl (some (.int (jI ng)))) (MM Ln (MG (KB σ g ch wi) (gateS g ng w)) lo db)) : Ev 126 (0, [.ref 368, .int w, .null, .null], [], 0, 0, MM Ln (MG σ g) lo db) K := by
  simp (disch := omega) only [s_126_0, s_126_1, s_126_2, s_126_3, s_126_5, r_126_5, s_126_8, s_126_11, s_126_12, s_126_15, s_126_16, r_126_16, s_126_19, s_126_22, s_126_23, s_126_25, s_126_28, s_126_29, s_126_30, s_126_32, s_126_35, s_126_36, s_126_37, s_126_38, s_126_40, r_126_40, s_126_43, s_126_44, s_126_45, s_126_46, s_126_49, r_126_49, s_126_52, s_126_53, s_126_56, s_126_57, s_126_58, s_126_59, s_126_60, s_126_63, s_126_64, s_126_65, s_126_66, s_126_67, s_126_68, s_126_69, s_126_70, s_126_72, s_126_74, s_126_77, s_126_78, s_126_81, s_126_83, s_126_85, s_126_86, s_126_87, s_126_88, s_126_89, s_126_90, s_126_91, s_126_92, s_126_95, s_126_98, s_126_99, s_126_102, s_126_104, s_126_106, s_126_107, s_126_108, s_126_109, s_126_110, s_126_111, s_126_112, s_126_113, s_126_114, s_126_117, s_126_119, s_126_121, s_126_122, s_126_123, s_126_124, s_126_125, s_126_126, s_126_127, s_126_128, s_126_129, jI_mul, jI_add, jI_tnc, jI_ixT, true_and, and_true, bZ_0, bZ_1, bZ_b, jI_nz, jI_div, jI_rem, jI_mod, Nat.add_zero, bI_if, not_false_iff, if_true, if_false, eq_self, MG_g, m_in]
  by_cases h1 : rng w 1 60
  · rw [if_pos h1]
    simp (disch := omega) only [s_126_0, s_126_1, s_126_2, s_126_3, s_126_5, r_126_5, s_126_8, s_126_11, s_126_12, s_126_15, s_126_16, r_126_16, s_126_19, s_126_22, s_126_23, s_126_25, s_126_28, s_126_29, s_126_30, s_126_32, s_126_35, s_126_36, s_126_37, s_126_38, s_126_40, r_126_40, s_126_43, s_126_44, s_126_45, s_126_46, s_126_49, r_126_49, s_126_52, s_126_53, s_126_56, s_126_57, s_126_58, s_126_59, s_126_60, s_126_63, s_126_64, s_126_65, s_126_66, s_126_67, s_126_68, s_126_69, s_126_70, s_126_72, s_126_74, s_126_77, s_126_78, s_126_81, s_126_83, s_126_85, s_126_86, s_126_87, s_126_88, s_126_89, s_126_90, s_126_91, s_126_92, s_126_95, s_126_98, s_126_99, s_126_102, s_126_104, s_126_106, s_126_107, s_126_108, s_126_109, s_126_110, s_126_111, s_126_112, s_126_113, s_126_114, s_126_117, s_126_119, s_126_121, s_126_122, s_126_123, s_126_124, s_126_125, s_126_126, s_126_127, s_126_128, s_126_129, jI_mul, jI_add, jI_tnc, jI_ixT, true_and, and_true, bZ_0, bZ_1, bZ_b, jI_nz, jI_div, jI_rem, jI_mod, Nat.add_zero, bI_if, not_false_iff, if_true, if_false, eq_self, m_fail0]
    by_cases h2 : ng = 6
    · subst h2
      simp (disch := omega) only [s_126_0, s_126_1, s_126_2, s_126_3, s_126_5, r_126_5, s_126_8, s_126_11, s_126_12, s_126_15, s_126_16, r_126_16, s_126_19, s_126_22, s_126_23, s_126_24, s_126_25, s_126_28, s_126_29, s_126_30, s_126_32, s_126_35, s_126_36, s_126_37, s_126_38, s_126_40, r_126_40, s_126_43, s_126_44, s_126_45, s_126_46, s_126_49, r_126_49, s_126_52, s_126_53, s_126_56, s_126_57, s_126_58, s_126_59, s_126_60, s_126_63, s_126_64, s_126_65, s_126_66, s_126_67, s_126_68, s_126_69, s_126_70, s_126_72, s_126_74, s_126_77, s_126_78, s_126_81, s_126_83, s_126_85, s_126_86, s_126_87, s_126_88, s_126_89, s_126_90, s_126_91, s_126_92, s_126_95, s_126_98, s_126_99, s_126_102, s_126_104, s_126_106, s_126_107, s_126_108, s_126_109, s_126_110, s_126_111, s_126_112, s_126_113, s_126_114, s_126_117, s_126_119, s_126_121, s_126_122, s_126_123, s_126_124, s_126_125, s_126_126, s_126_127, s_126_128, s_126_129, jI_mul, jI_add, jI_tnc, jI_ixT, true_and, and_true, bZ_0, bZ_1, bZ_b, jI_nz, jI_div, jI_rem, jI_mod, Nat.add_zero, bI_if, not_false_iff, if_true, if_false, eq_self, MG_g, h3, m_refuses]
      exact F2 h1 rfl
    · have n6 : (jI ng = jI 6) = False := eq_false (fun e => h2 ((jI_inj (by omega) (by omega)).mp e))
      simp (disch := omega) only [s_126_0, s_126_1, s_126_2, s_126_3, s_126_5, r_126_5, s_126_8, s_126_11, s_126_12, s_126_15, s_126_16, r_126_16, s_126_19, s_126_22, s_126_23, s_126_24, s_126_25, s_126_28, s_126_29, s_126_30, s_126_32, s_126_35, s_126_36, s_126_37, s_126_38, s_126_40, r_126_40, s_126_43, s_126_44, s_126_45, s_126_46, s_126_49, r_126_49, s_126_52, s_126_53, s_126_56, s_126_57, s_126_58, s_126_59, s_126_60, s_126_63, s_126_64, s_126_65, s_126_66, s_126_67, s_126_68, s_126_69, s_126_70, s_126_72, s_126_74, s_126_77, s_126_78, s_126_81, s_126_83, s_126_85, s_126_86, s_126_87, s_126_88, s_126_89, s_126_90, s_126_91, s_126_92, s_126_95, s_126_98, s_126_99, s_126_102, s_126_104, s_126_106, s_126_107, s_126_108, s_126_109, s_126_110, s_126_111, s_126_112, s_126_113, s_126_114, s_126_117, s_126_119, s_126_121, s_126_122, s_126_123, s_126_124, s_126_125, s_126_126, s_126_127, s_126_128, s_126_129, jI_mul, jI_add, jI_tnc, jI_ixT, true_and, and_true, bZ_0, bZ_1, bZ_b, jI_nz, jI_div, jI_rem, jI_mod, Nat.add_zero, bI_if, not_false_iff, if_true, if_false, eq_self, MG_g, h3, n6, m_keepsC hw hc hch, MG_u]
      refine lup0 10 (fun i x => x = (71, [.ref 368, .int w, .int (jI ng), .int (jI i)], [], 0, 0, MM Ln (MG (KB σ g ch wi) (itN i (fun i g => gu g (15 + 10 * ng + i) (jI 0)) (gu g 3 (jI (ng + 1))))) lo db)) rfl ?_ ?_
      · rintro i x hi rfl hn
        have hn := hn _ rfl
        rw [s_126_71]
        simp (disch := omega) only [s_126_0, s_126_1, s_126_2, s_126_3, s_126_5, r_126_5, s_126_8, s_126_11, s_126_12, s_126_15, s_126_16, r_126_16, s_126_19, s_126_22, s_126_23, s_126_24, s_126_25, s_126_28, s_126_29, s_126_30, s_126_32, s_126_35, s_126_36, s_126_37, s_126_38, s_126_40, r_126_40, s_126_43, s_126_44, s_126_45, s_126_46, s_126_49, r_126_49, s_126_52, s_126_53, s_126_56, s_126_57, s_126_58, s_126_59, s_126_60, s_126_63, s_126_64, s_126_65, s_126_66, s_126_67, s_126_68, s_126_69, s_126_70, s_126_72, s_126_74, s_126_77, s_126_78, s_126_81, s_126_83, s_126_85, s_126_86, s_126_87, s_126_88, s_126_89, s_126_90, s_126_91, s_126_92, s_126_95, s_126_98, s_126_99, s_126_102, s_126_104, s_126_106, s_126_107, s_126_108, s_126_109, s_126_110, s_126_111, s_126_112, s_126_113, s_126_114, s_126_117, s_126_119, s_126_121, s_126_122, s_126_123, s_126_124, s_126_125, s_126_126, s_126_127, s_126_128, s_126_129, jI_mul, jI_add, jI_tnc, jI_ixT, true_and, and_true, bZ_0, bZ_1, bZ_b, jI_nz, jI_div, jI_rem, jI_mod, Nat.add_zero, bI_if, not_false_iff, if_true, if_false, eq_self, jI_le, MG_g, MG_u]
        rw [if_neg (by omega)]
        exact hn
      · rintro x rfl
        rw [s_126_71]
        simp (disch := omega) only [s_126_0, s_126_1, s_126_2, s_126_3, s_126_5, r_126_5, s_126_8, s_126_11, s_126_12, s_126_15, s_126_16, r_126_16, s_126_19, s_126_22, s_126_23, s_126_24, s_126_25, s_126_28, s_126_29, s_126_30, s_126_32, s_126_35, s_126_36, s_126_37, s_126_38, s_126_40, r_126_40, s_126_43, s_126_44, s_126_45, s_126_46, s_126_49, r_126_49, s_126_52, s_126_53, s_126_56, s_126_57, s_126_58, s_126_59, s_126_60, s_126_63, s_126_64, s_126_65, s_126_66, s_126_67, s_126_68, s_126_69, s_126_70, s_126_72, s_126_74, s_126_77, s_126_78, s_126_81, s_126_83, s_126_85, s_126_86, s_126_87, s_126_88, s_126_89, s_126_90, s_126_91, s_126_92, s_126_95, s_126_98, s_126_99, s_126_102, s_126_104, s_126_106, s_126_107, s_126_108, s_126_109, s_126_110, s_126_111, s_126_112, s_126_113, s_126_114, s_126_117, s_126_119, s_126_121, s_126_122, s_126_123, s_126_124, s_126_125, s_126_126, s_126_127, s_126_128, s_126_129, jI_mul, jI_add, jI_tnc, jI_ixT, true_and, and_true, bZ_0, bZ_1, bZ_b, jI_nz, jI_div, jI_rem, jI_mod, Nat.add_zero, bI_if, not_false_iff, if_true, if_false, eq_self, jI_le, Nat.le_refl, MG_g, MG_u]
        exact H h1 (by omega)
  · rw [if_neg h1]
    simp (disch := omega) only [s_126_0, s_126_1, s_126_2, s_126_3, s_126_5, r_126_5, s_126_8, s_126_11, s_126_12, s_126_15, s_126_16, r_126_16, s_126_19, s_126_22, s_126_23, s_126_24, s_126_25, s_126_28, s_126_29, s_126_30, s_126_32, s_126_35, s_126_36, s_126_37, s_126_38, s_126_40, r_126_40, s_126_43, s_126_44, s_126_45, s_126_46, s_126_49, r_126_49, s_126_52, s_126_53, s_126_56, s_126_57, s_126_58, s_126_59, s_126_60, s_126_63, s_126_64, s_126_65, s_126_66, s_126_67, s_126_68, s_126_69, s_126_70, s_126_72, s_126_74, s_126_77, s_126_78, s_126_81, s_126_83, s_126_85, s_126_86, s_126_87, s_126_88, s_126_89, s_126_90, s_126_91, s_126_92, s_126_95, s_126_98, s_126_99, s_126_102, s_126_104, s_126_106, s_126_107, s_126_108, s_126_109, s_126_110, s_126_111, s_126_112, s_126_113, s_126_114, s_126_117, s_126_119, s_126_121, s_126_122, s_126_123, s_126_124, s_126_125, s_126_126, s_126_127, s_126_128, s_126_129, jI_mul, jI_add, jI_tnc, jI_ixT, true_and, and_true, bZ_0, bZ_1, bZ_b, jI_nz, jI_div, jI_rem, jI_mod, Nat.add_zero, bI_if, not_false_iff, if_true, if_false, eq_self, m_fail1]
    exact F1 h1
def garS (g : Gr) (k gt : Nat) (bd sh co : Int32) : Gr := gu (gu (gu (gu (gu (itN 9 (fun i g => gu g (75 + 9 * k + i) (jI 0)) (gu g 4 (jI (k + 1)))) (75 + 9 * k) (jI gt)) (75 + 9 * k + 1) bd) (75 + 9 * k + 2) sh) (75 + 9 * k + 3) co) (75 + 9 * k + 8) jm1
theorem m_garden {v bd sh co : Int32} {ng nd : Nat} (hng : ng ≤ 6) (h3 : g 3 = jI ng) (hnd : nd ≤ 12) (h4 : g 4 = jI nd) (hw : σ 368 7 = bI (wi = true)) (hc : σ 368 6 = jI ch) (hch : ch ≤ 8) (F1 : ¬ hs v ng → K (.inl (some (.int (jI 0)))) (MM Ln (MG (u2 σ 368 8 (jI 1)) g) lo db))
    (F2 : hs v ng → ¬ (rng bd 1 20 ∧ rng sh 1 9 ∧ rng co 0 99) → K (.inl (some (.int (jI 0)))) (MM Ln (MG (u2 σ 368 8 (jI 2)) g) lo db))
    (F3 : hs v ng → (rng bd 1 20 ∧ rng sh 1 9 ∧ rng co 0 99) → nd = 12 → K (.inl (some (.int (jI 0)))) (MM Ln (MG (u2 (u2 (u2 (u2 (u2 σ 368 8 (jI 0)) 368 8 (jI 3)) 368 9 (jI 1)) 368 10 (jI 1)) 368 11 (jI 12)) g) lo db))
    (H : ∀ gt, gt < ng → v = jI gt → (rng bd 1 20 ∧ rng sh 1 9 ∧ rng co 0 99) → nd < 12 → K (.inl (some (.int (jI nd)))) (MM Ln (MG (KB σ g ch wi) (garS g nd gt bd sh co)) lo db)) : Ev 127 (0, [.ref 368, .int v, .int bd, .int sh, .int co, .null, .null], [], 0, 0, MM Ln (MG σ g) lo db) K := by
  simp (disch := omega) only [s_127_0, s_127_1, s_127_2, s_127_3, r_127_3, s_127_6, s_127_9, s_127_10, s_127_13, s_127_14, s_127_15, s_127_17, r_127_17, s_127_20, s_127_23, s_127_24, s_127_25, s_127_27, r_127_27, s_127_30, s_127_33, s_127_35, s_127_36, s_127_38, r_127_38, s_127_41, s_127_44, s_127_45, s_127_48, s_127_49, r_127_49, s_127_52, s_127_55, s_127_56, s_127_57, s_127_58, s_127_61, s_127_63, s_127_65, s_127_68, s_127_69, s_127_70, s_127_71, s_127_73, r_127_73, s_127_76, s_127_77, s_127_78, s_127_79, s_127_82, r_127_82, s_127_85, s_127_86, s_127_89, s_127_90, s_127_91, s_127_93, s_127_94, s_127_97, s_127_98, s_127_99, s_127_100, s_127_101, s_127_102, s_127_103, s_127_104, s_127_108, s_127_110, s_127_113, s_127_114, s_127_116, s_127_118, s_127_119, r_127_119, s_127_122, s_127_125, s_127_128, s_127_129, s_127_131, s_127_132, s_127_133, r_127_133, s_127_136, s_127_137, s_127_139, s_127_140, s_127_141, r_127_141, s_127_144, s_127_145, s_127_147, s_127_148, s_127_149, r_127_149, s_127_152, s_127_153, s_127_155, s_127_156, s_127_158, r_127_158, s_127_161, s_127_162, s_127_164, s_127_166, s_127_167, r_127_167, s_127_170, s_127_172, jI_mul, jI_add, jI_tnc, jI_ixT, true_and, and_true, bZ_0, bZ_1, bZ_b, jI_nz, jI_div, jI_rem, jI_mod, Nat.add_zero, bI_if, not_false_iff, if_true, if_false, eq_self, MG_g, m_in, m_isGate hng h3]
  by_cases h1 : hs v ng
  · obtain ⟨gt, hk, rfl⟩ := hs_of h1 (by omega)
    rw [if_pos h1]
    by_cases h2 : rng bd 1 20
    · rw [if_pos h2]
      by_cases h3' : rng sh 1 9
      · rw [if_pos h3']
        by_cases h4' : rng co 0 99
        · rw [if_pos h4']
          have F3 := F3 h1 ⟨h2, h3', h4'⟩
          have H := H gt hk rfl ⟨h2, h3', h4'⟩
          simp (disch := omega) only [s_127_0, s_127_1, s_127_2, s_127_3, r_127_3, s_127_6, s_127_9, s_127_10, s_127_13, s_127_14, s_127_15, s_127_17, r_127_17, s_127_20, s_127_23, s_127_24, s_127_25, s_127_27, r_127_27, s_127_30, s_127_33, s_127_35, s_127_36, s_127_38, r_127_38, s_127_41, s_127_44, s_127_45, s_127_48, s_127_49, r_127_49, s_127_52, s_127_55, s_127_56, s_127_58, s_127_61, s_127_62, s_127_63, s_127_65, s_127_68, s_127_69, s_127_70, s_127_71, s_127_73, r_127_73, s_127_76, s_127_77, s_127_78, s_127_79, s_127_82, r_127_82, s_127_85, s_127_86, s_127_89, s_127_90, s_127_91, s_127_93, s_127_94, s_127_97, s_127_98, s_127_99, s_127_100, s_127_101, s_127_102, s_127_103, s_127_104, s_127_108, s_127_110, s_127_113, s_127_114, s_127_116, s_127_118, s_127_119, r_127_119, s_127_122, s_127_125, s_127_128, s_127_129, s_127_131, s_127_132, s_127_133, r_127_133, s_127_136, s_127_137, s_127_139, s_127_140, s_127_141, r_127_141, s_127_144, s_127_145, s_127_147, s_127_148, s_127_149, r_127_149, s_127_152, s_127_153, s_127_155, s_127_156, s_127_158, r_127_158, s_127_161, s_127_162, s_127_164, s_127_166, s_127_167, r_127_167, s_127_170, s_127_172, jI_mul, jI_add, jI_tnc, jI_ixT, true_and, and_true, bZ_0, bZ_1, bZ_b, jI_nz, jI_div, jI_rem, jI_mod, Nat.add_zero, bI_if, not_false_iff, if_true, if_false, eq_self, m_fail0]
          by_cases h5 : nd = 12
          · subst h5
            simp (disch := omega) only [s_127_0, s_127_1, s_127_2, s_127_3, r_127_3, s_127_6, s_127_9, s_127_10, s_127_13, s_127_14, s_127_15, s_127_17, r_127_17, s_127_20, s_127_23, s_127_24, s_127_25, s_127_27, r_127_27, s_127_30, s_127_33, s_127_35, s_127_36, s_127_38, r_127_38, s_127_41, s_127_44, s_127_45, s_127_48, s_127_49, r_127_49, s_127_52, s_127_55, s_127_56, s_127_57, s_127_58, s_127_61, s_127_62, s_127_63, s_127_65, s_127_68, s_127_69, s_127_70, s_127_71, s_127_73, r_127_73, s_127_76, s_127_77, s_127_78, s_127_79, s_127_82, r_127_82, s_127_85, s_127_86, s_127_89, s_127_90, s_127_91, s_127_93, s_127_94, s_127_97, s_127_98, s_127_99, s_127_100, s_127_101, s_127_102, s_127_103, s_127_104, s_127_108, s_127_110, s_127_113, s_127_114, s_127_116, s_127_118, s_127_119, r_127_119, s_127_122, s_127_125, s_127_128, s_127_129, s_127_131, s_127_132, s_127_133, r_127_133, s_127_136, s_127_137, s_127_139, s_127_140, s_127_141, r_127_141, s_127_144, s_127_145, s_127_147, s_127_148, s_127_149, r_127_149, s_127_152, s_127_153, s_127_155, s_127_156, s_127_158, r_127_158, s_127_161, s_127_162, s_127_164, s_127_166, s_127_167, r_127_167, s_127_170, s_127_172, jI_mul, jI_add, jI_tnc, jI_ixT, true_and, and_true, bZ_0, bZ_1, bZ_b, jI_nz, jI_div, jI_rem, jI_mod, Nat.add_zero, bI_if, not_false_iff, if_true, if_false, eq_self, MG_g, h4, m_refuses]
            exact F3 rfl
          · have n12 : (jI nd = jI 12) = False := eq_false (fun e => h5 ((jI_inj (by omega) (by omega)).mp e))
            simp (disch := omega) only [s_127_0, s_127_1, s_127_2, s_127_3, r_127_3, s_127_6, s_127_9, s_127_10, s_127_13, s_127_14, s_127_15, s_127_17, r_127_17, s_127_20, s_127_23, s_127_24, s_127_25, s_127_27, r_127_27, s_127_30, s_127_33, s_127_35, s_127_36, s_127_38, r_127_38, s_127_41, s_127_44, s_127_45, s_127_48, s_127_49, r_127_49, s_127_52, s_127_55, s_127_56, s_127_57, s_127_58, s_127_61, s_127_62, s_127_63, s_127_65, s_127_68, s_127_69, s_127_70, s_127_71, s_127_73, r_127_73, s_127_76, s_127_77, s_127_78, s_127_79, s_127_82, r_127_82, s_127_85, s_127_86, s_127_89, s_127_90, s_127_91, s_127_93, s_127_94, s_127_97, s_127_98, s_127_99, s_127_100, s_127_101, s_127_102, s_127_103, s_127_104, s_127_108, s_127_110, s_127_113, s_127_114, s_127_116, s_127_118, s_127_119, r_127_119, s_127_122, s_127_125, s_127_128, s_127_129, s_127_131, s_127_132, s_127_133, r_127_133, s_127_136, s_127_137, s_127_139, s_127_140, s_127_141, r_127_141, s_127_144, s_127_145, s_127_147, s_127_148, s_127_149, r_127_149, s_127_152, s_127_153, s_127_155, s_127_156, s_127_158, r_127_158, s_127_161, s_127_162, s_127_164, s_127_166, s_127_167, r_127_167, s_127_170, s_127_172, jI_mul, jI_add, jI_tnc, jI_ixT, true_and, and_true, bZ_0, bZ_1, bZ_b, jI_nz, jI_div, jI_rem, jI_mod, Nat.add_zero, bI_if, not_false_iff, if_true, if_false, eq_self, MG_g, h4, n12, m_keepsC hw hc hch, MG_u]
            refine lup0 9 (fun i x => x = (106, [.ref 368, .int (jI gt), .int bd, .int sh, .int co, .int (jI nd), .int (jI i)], [], 0, 0, MM Ln (MG (KB σ g ch wi) (itN i (fun i g => gu g (75 + 9 * nd + i) (jI 0)) (gu g 4 (jI (nd + 1))))) lo db)) rfl ?_ ?_
            · rintro i x hi rfl hn
              have hn := hn _ rfl
              rw [s_127_106]
              simp (disch := omega) only [s_127_0, s_127_1, s_127_2, s_127_3, r_127_3, s_127_6, s_127_9, s_127_10, s_127_13, s_127_14, s_127_15, s_127_17, r_127_17, s_127_20, s_127_23, s_127_24, s_127_25, s_127_27, r_127_27, s_127_30, s_127_33, s_127_35, s_127_36, s_127_38, r_127_38, s_127_41, s_127_44, s_127_45, s_127_48, s_127_49, r_127_49, s_127_52, s_127_55, s_127_56, s_127_57, s_127_58, s_127_61, s_127_62, s_127_63, s_127_65, s_127_68, s_127_69, s_127_70, s_127_71, s_127_73, r_127_73, s_127_76, s_127_77, s_127_78, s_127_79, s_127_82, r_127_82, s_127_85, s_127_86, s_127_89, s_127_90, s_127_91, s_127_93, s_127_94, s_127_97, s_127_98, s_127_99, s_127_100, s_127_101, s_127_102, s_127_103, s_127_104, s_127_108, s_127_110, s_127_113, s_127_114, s_127_116, s_127_118, s_127_119, r_127_119, s_127_122, s_127_125, s_127_128, s_127_129, s_127_131, s_127_132, s_127_133, r_127_133, s_127_136, s_127_137, s_127_139, s_127_140, s_127_141, r_127_141, s_127_144, s_127_145, s_127_147, s_127_148, s_127_149, r_127_149, s_127_152, s_127_153, s_127_155, s_127_156, s_127_158, r_127_158, s_127_161, s_127_162, s_127_164, s_127_166, s_127_167, r_127_167, s_127_170, s_127_172, jI_mul, jI_add, jI_tnc, jI_ixT, true_and, and_true, bZ_0, bZ_1, bZ_b, jI_nz, jI_div, jI_rem, jI_mod, Nat.add_zero, bI_if, not_false_iff, if_true, if_false, eq_self, jI_le, m_lays]
              rw [if_neg (by omega)]
              exact hn
            · rintro x rfl
              rw [s_127_106]
              simp (disch := omega) only [s_127_0, s_127_1, s_127_2, s_127_3, r_127_3, s_127_6, s_127_9, s_127_10, s_127_13, s_127_14, s_127_15, s_127_17, r_127_17, s_127_20, s_127_23, s_127_24, s_127_25, s_127_27, r_127_27, s_127_30, s_127_33, s_127_35, s_127_36, s_127_38, r_127_38, s_127_41, s_127_44, s_127_45, s_127_48, s_127_49, r_127_49, s_127_52, s_127_55, s_127_56, s_127_57, s_127_58, s_127_61, s_127_62, s_127_63, s_127_65, s_127_68, s_127_69, s_127_70, s_127_71, s_127_73, r_127_73, s_127_76, s_127_77, s_127_78, s_127_79, s_127_82, r_127_82, s_127_85, s_127_86, s_127_89, s_127_90, s_127_91, s_127_93, s_127_94, s_127_97, s_127_98, s_127_99, s_127_100, s_127_101, s_127_102, s_127_103, s_127_104, s_127_108, s_127_110, s_127_113, s_127_114, s_127_116, s_127_118, s_127_119, r_127_119, s_127_122, s_127_125, s_127_128, s_127_129, s_127_131, s_127_132, s_127_133, r_127_133, s_127_136, s_127_137, s_127_139, s_127_140, s_127_141, r_127_141, s_127_144, s_127_145, s_127_147, s_127_148, s_127_149, r_127_149, s_127_152, s_127_153, s_127_155, s_127_156, s_127_158, r_127_158, s_127_161, s_127_162, s_127_164, s_127_166, s_127_167, r_127_167, s_127_170, s_127_172, jI_mul, jI_add, jI_tnc, jI_ixT, true_and, and_true, bZ_0, bZ_1, bZ_b, jI_nz, jI_div, jI_rem, jI_mod, Nat.add_zero, bI_if, not_false_iff, if_true, if_false, eq_self, jI_le, Nat.le_refl, m_lays]
              exact H (by omega)
        · rw [if_neg h4']
          simp (disch := omega) only [s_127_0, s_127_1, s_127_2, s_127_3, r_127_3, s_127_6, s_127_9, s_127_10, s_127_13, s_127_14, s_127_15, s_127_17, r_127_17, s_127_20, s_127_23, s_127_24, s_127_25, s_127_27, r_127_27, s_127_30, s_127_33, s_127_35, s_127_36, s_127_38, r_127_38, s_127_41, s_127_44, s_127_45, s_127_48, s_127_49, r_127_49, s_127_52, s_127_55, s_127_56, s_127_57, s_127_58, s_127_61, s_127_62, s_127_63, s_127_65, s_127_68, s_127_69, s_127_70, s_127_71, s_127_73, r_127_73, s_127_76, s_127_77, s_127_78, s_127_79, s_127_82, r_127_82, s_127_85, s_127_86, s_127_89, s_127_90, s_127_91, s_127_93, s_127_94, s_127_97, s_127_98, s_127_99, s_127_100, s_127_101, s_127_102, s_127_103, s_127_104, s_127_108, s_127_110, s_127_113, s_127_114, s_127_116, s_127_118, s_127_119, r_127_119, s_127_122, s_127_125, s_127_128, s_127_129, s_127_131, s_127_132, s_127_133, r_127_133, s_127_136, s_127_137, s_127_139, s_127_140, s_127_141, r_127_141, s_127_144, s_127_145, s_127_147, s_127_148, s_127_149, r_127_149, s_127_152, s_127_153, s_127_155, s_127_156, s_127_158, r_127_158, s_127_161, s_127_162, s_127_164, s_127_166, s_127_167, r_127_167, s_127_170, s_127_172, jI_mul, jI_add, jI_tnc, jI_ixT, true_and, and_true, bZ_0, bZ_1, bZ_b, jI_nz, jI_div, jI_rem, jI_mod, Nat.add_zero, bI_if, not_false_iff, if_true, if_false, eq_self, m_fail1]
          exact F2 h1 (fun e => h4' e.2.2)
      · rw [if_neg h3']
        simp (disch := omega) only [s_127_0, s_127_1, s_127_2, s_127_3, r_127_3, s_127_6, s_127_9, s_127_10, s_127_13, s_127_14, s_127_15, s_127_17, r_127_17, s_127_20, s_127_23, s_127_24, s_127_25, s_127_27, r_127_27, s_127_30, s_127_33, s_127_35, s_127_36, s_127_38, r_127_38, s_127_41, s_127_44, s_127_45, s_127_48, s_127_49, r_127_49, s_127_52, s_127_55, s_127_56, s_127_57, s_127_58, s_127_61, s_127_62, s_127_63, s_127_65, s_127_68, s_127_69, s_127_70, s_127_71, s_127_73, r_127_73, s_127_76, s_127_77, s_127_78, s_127_79, s_127_82, r_127_82, s_127_85, s_127_86, s_127_89, s_127_90, s_127_91, s_127_93, s_127_94, s_127_97, s_127_98, s_127_99, s_127_100, s_127_101, s_127_102, s_127_103, s_127_104, s_127_108, s_127_110, s_127_113, s_127_114, s_127_116, s_127_118, s_127_119, r_127_119, s_127_122, s_127_125, s_127_128, s_127_129, s_127_131, s_127_132, s_127_133, r_127_133, s_127_136, s_127_137, s_127_139, s_127_140, s_127_141, r_127_141, s_127_144, s_127_145, s_127_147, s_127_148, s_127_149, r_127_149, s_127_152, s_127_153, s_127_155, s_127_156, s_127_158, r_127_158, s_127_161, s_127_162, s_127_164, s_127_166, s_127_167, r_127_167, s_127_170, s_127_172, jI_mul, jI_add, jI_tnc, jI_ixT, true_and, and_true, bZ_0, bZ_1, bZ_b, jI_nz, jI_div, jI_rem, jI_mod, Nat.add_zero, bI_if, not_false_iff, if_true, if_false, eq_self, m_fail1]
        exact F2 h1 (fun e => h3' e.2.1)
    · rw [if_neg h2]
      simp (disch := omega) only [s_127_0, s_127_1, s_127_2, s_127_3, r_127_3, s_127_6, s_127_9, s_127_10, s_127_13, s_127_14, s_127_15, s_127_17, r_127_17, s_127_20, s_127_23, s_127_24, s_127_25, s_127_27, r_127_27, s_127_30, s_127_33, s_127_35, s_127_36, s_127_38, r_127_38, s_127_41, s_127_44, s_127_45, s_127_48, s_127_49, r_127_49, s_127_52, s_127_55, s_127_56, s_127_57, s_127_58, s_127_61, s_127_62, s_127_63, s_127_65, s_127_68, s_127_69, s_127_70, s_127_71, s_127_73, r_127_73, s_127_76, s_127_77, s_127_78, s_127_79, s_127_82, r_127_82, s_127_85, s_127_86, s_127_89, s_127_90, s_127_91, s_127_93, s_127_94, s_127_97, s_127_98, s_127_99, s_127_100, s_127_101, s_127_102, s_127_103, s_127_104, s_127_108, s_127_110, s_127_113, s_127_114, s_127_116, s_127_118, s_127_119, r_127_119, s_127_122, s_127_125, s_127_128, s_127_129, s_127_131, s_127_132, s_127_133, r_127_133, s_127_136, s_127_137, s_127_139, s_127_140, s_127_141, r_127_141, s_127_144, s_127_145, s_127_147, s_127_148, s_127_149, r_127_149, s_127_152, s_127_153, s_127_155, s_127_156, s_127_158, r_127_158, s_127_161, s_127_162, s_127_164, s_127_166, s_127_167, r_127_167, s_127_170, s_127_172, jI_mul, jI_add, jI_tnc, jI_ixT, true_and, and_true, bZ_0, bZ_1, bZ_b, jI_nz, jI_div, jI_rem, jI_mod, Nat.add_zero, bI_if, not_false_iff, if_true, if_false, eq_self, m_fail1]
      exact F2 h1 (fun e => h2 e.1)
  · rw [if_neg h1]
    simp (disch := omega) only [s_127_0, s_127_1, s_127_2, s_127_3, r_127_3, s_127_6, s_127_9, s_127_10, s_127_13, s_127_14, s_127_15, s_127_17, r_127_17, s_127_20, s_127_23, s_127_24, s_127_25, s_127_27, r_127_27, s_127_30, s_127_33, s_127_35, s_127_36, s_127_38, r_127_38, s_127_41, s_127_44, s_127_45, s_127_48, s_127_49, r_127_49, s_127_52, s_127_55, s_127_56, s_127_57, s_127_58, s_127_61, s_127_62, s_127_63, s_127_65, s_127_68, s_127_69, s_127_70, s_127_71, s_127_73, r_127_73, s_127_76, s_127_77, s_127_78, s_127_79, s_127_82, r_127_82, s_127_85, s_127_86, s_127_89, s_127_90, s_127_91, s_127_93, s_127_94, s_127_97, s_127_98, s_127_99, s_127_100, s_127_101, s_127_102, s_127_103, s_127_104, s_127_108, s_127_110, s_127_113, s_127_114, s_127_116, s_127_118, s_127_119, r_127_119, s_127_122, s_127_125, s_127_128, s_127_129, s_127_131, s_127_132, s_127_133, r_127_133, s_127_136, s_127_137, s_127_139, s_127_140, s_127_141, r_127_141, s_127_144, s_127_145, s_127_147, s_127_148, s_127_149, r_127_149, s_127_152, s_127_153, s_127_155, s_127_156, s_127_158, r_127_158, s_127_161, s_127_162, s_127_164, s_127_166, s_127_167, r_127_167, s_127_170, s_127_172, jI_mul, jI_add, jI_tnc, jI_ixT, true_and, and_true, bZ_0, bZ_1, bZ_b, jI_nz, jI_div, jI_rem, jI_mod, Nat.add_zero, bI_if, not_false_iff, if_true, if_false, eq_self, m_fail1]
    exact F1 h1
end
end
