/-! THE CLASS: the hours of a gate; gates and gardens are added -/
set_option maxRecDepth 16384
section
variable {K : Ou → Me → Prop} {Ln : Nat} {σ : Nat → Nat → Int32} {g g1 : Gr} {lo : Nat → Nat → Int64} {db : Nat → Nat → UInt64} {μ : Me} {oh : Nat → Nat → Bool} {o ng nd nc h i : Nat}
theorem sh_jI {n s : Nat} (hn : n < 2147483648) (hs : s < 32) : ((jI n).toUInt32 >>> ((jI s).toUInt32 &&& Int32.toUInt32 31)).toInt32 = jI (n / 2 ^ s) := by
  have hs' : ∀ s : Fin 32, (UInt32.mod ((jI s.1).toUInt32 &&& Int32.toUInt32 31) 32).toBitVec = BitVec.ofNat 32 s.1 := by decide +kernel
  apply Int32.toBitVec_inj.mp
  show ((jI n).toBitVec >>> (UInt32.mod ((jI s).toUInt32 &&& Int32.toUInt32 31) 32).toBitVec) = BitVec.ofNat 32 (n / 2 ^ s)
  rw [hs' ⟨s, hs⟩]
  apply BitVec.eq_of_toNat_eq
  have hq : n / 2 ^ s ≤ n := Nat.div_le_self _ _
  rw [BitVec.ushiftRight_eq', BitVec.toNat_ushiftRight, BitVec.toNat_ofNat, BitVec.toNat_ofNat, Nat.mod_eq_of_lt (show s < 2 ^ 32 by omega), Nat.mod_eq_of_lt (show n / 2 ^ s < 2 ^ 32 by omega)]
  show (BitVec.ofNat 32 n).toNat >>> s = n / 2 ^ s
  rw [BitVec.toNat_ofNat, Nat.mod_eq_of_lt (by omega), Nat.shiftRight_eq_div_pow]
theorem and_jI {a b : Nat} : jI a &&& jI b = jI (a &&& b) := by
  apply Int32.toBitVec_inj.mp
  show BitVec.ofNat 32 a &&& BitVec.ofNat 32 b = BitVec.ofNat 32 (a &&& b)
  exact BitVec.ofNat_and.symm
theorem c_bitN {n : Nat} (hn : n < 16777216) : Ev 217 (0, [.int (jI n)], [], 0, 0, MM Ln σ lo db) K ↔ K (.inl (some (.int (jI (bcN n))))) (MM Ln σ lo db) := by
  have k1 : n / 2 &&& 1431655765 ≤ n / 2 := Nat.and_le_left
  unfold bcN
  dsimp only
  have ha : n - (n / 2 &&& 1431655765) ≤ n := Nat.sub_le _ _
  have e1 : ((jI n).toUInt32 >>> ((jI 1).toUInt32 &&& Int32.toUInt32 31)).toInt32 = jI (n / 2) := sh_jI (by omega) (by decide)
  simp only [s_217_0, s_217_1, s_217_2, s_217_3, s_217_4, s_217_7, s_217_8, s_217_9, s_217_11, s_217_14, s_217_15, s_217_16, s_217_17, s_217_18, s_217_21, s_217_22, s_217_23, s_217_24, s_217_25, s_217_26, s_217_27, s_217_28, s_217_29, s_217_32, s_217_33, s_217_34, s_217_35, s_217_36, s_217_38, s_217_39, s_217_40, s_217_41, s_217_42, s_217_43, s_217_45, s_217_46, s_217_47, s_217_48, s_217_49, s_217_51, s_217_52, e1, and_jI, jI_sub (show n / 2 &&& 1431655765 ≤ n by omega)]
  generalize n - (n / 2 &&& 1431655765) = a at *
  have e2 : ((jI a).toUInt32 >>> ((jI 2).toUInt32 &&& Int32.toUInt32 31)).toInt32 = jI (a / 4) := sh_jI (by omega) (by decide)
  have k2 : a &&& 858993459 ≤ a := Nat.and_le_left
  have k3 : a / 4 &&& 858993459 ≤ a / 4 := Nat.and_le_left
  simp only [s_217_0, s_217_1, s_217_2, s_217_3, s_217_4, s_217_7, s_217_8, s_217_9, s_217_10, s_217_11, s_217_14, s_217_15, s_217_16, s_217_17, s_217_18, s_217_21, s_217_22, s_217_23, s_217_25, s_217_26, s_217_27, s_217_28, s_217_29, s_217_32, s_217_33, s_217_34, s_217_35, s_217_36, s_217_38, s_217_39, s_217_40, s_217_41, s_217_42, s_217_43, s_217_45, s_217_46, s_217_47, s_217_48, s_217_49, s_217_51, s_217_52, e2, and_jI, jI_add]
  have hb : (a &&& 858993459) + (a / 4 &&& 858993459) ≤ a + a / 4 := by omega
  generalize (a &&& 858993459) + (a / 4 &&& 858993459) = b at *
  have e3 : ((jI b).toUInt32 >>> ((jI 4).toUInt32 &&& Int32.toUInt32 31)).toInt32 = jI (b / 16) := sh_jI (by omega) (by decide)
  have k4 : (b + b / 16) &&& 252645135 ≤ b + b / 16 := Nat.and_le_left
  simp only [s_217_0, s_217_1, s_217_2, s_217_3, s_217_4, s_217_7, s_217_8, s_217_9, s_217_10, s_217_11, s_217_14, s_217_15, s_217_16, s_217_17, s_217_18, s_217_21, s_217_22, s_217_23, s_217_24, s_217_25, s_217_26, s_217_27, s_217_28, s_217_29, s_217_32, s_217_33, s_217_35, s_217_36, s_217_38, s_217_39, s_217_40, s_217_41, s_217_42, s_217_43, s_217_45, s_217_46, s_217_47, s_217_48, s_217_49, s_217_51, s_217_52, e3, and_jI, jI_add]
  generalize (b + b / 16) &&& 252645135 = c at *
  have e4 : ((jI c).toUInt32 >>> ((jI 8).toUInt32 &&& Int32.toUInt32 31)).toInt32 = jI (c / 256) := sh_jI (by omega) (by decide)
  simp only [s_217_0, s_217_1, s_217_2, s_217_3, s_217_4, s_217_7, s_217_8, s_217_9, s_217_10, s_217_11, s_217_14, s_217_15, s_217_16, s_217_17, s_217_18, s_217_21, s_217_22, s_217_23, s_217_24, s_217_25, s_217_26, s_217_27, s_217_28, s_217_29, s_217_32, s_217_33, s_217_34, s_217_35, s_217_36, s_217_38, s_217_39, s_217_40, s_217_42, s_217_43, s_217_45, s_217_46, s_217_47, s_217_48, s_217_49, s_217_51, s_217_52, e4, jI_add]
  have hd : c + c / 256 ≤ 2 * c := by omega
  generalize c + c / 256 = d at *
  have e5 : ((jI d).toUInt32 >>> ((jI 16).toUInt32 &&& Int32.toUInt32 31)).toInt32 = jI (d / 65536) := sh_jI (by omega) (by decide)
  simp only [s_217_0, s_217_1, s_217_2, s_217_3, s_217_4, s_217_7, s_217_8, s_217_9, s_217_10, s_217_11, s_217_14, s_217_15, s_217_16, s_217_17, s_217_18, s_217_21, s_217_22, s_217_23, s_217_24, s_217_25, s_217_26, s_217_27, s_217_28, s_217_29, s_217_32, s_217_33, s_217_34, s_217_35, s_217_36, s_217_38, s_217_39, s_217_40, s_217_41, s_217_42, s_217_43, s_217_45, s_217_46, s_217_47, s_217_48, s_217_49, s_217_51, s_217_52, e5, and_jI, jI_add]
theorem bt_nat {x : Int32} (h : ∀ r, 24 ≤ r → bt x r = false) : ∃ n, n < 16777216 ∧ x = jI n ∧ ∀ r, r < 24 → (bt x r = true ↔ n / 2 ^ r % 2 = 1) := by
  refine ⟨x.toBitVec.toNat, ?_, ?_, ?_⟩
  · have : x.toBitVec.toNat < 2 ^ 24 := by
      apply Nat.lt_pow_two_of_testBit
      intro i hi
      exact h i hi
    omega
  · apply Int32.toBitVec_inj.mp
    show x.toBitVec = BitVec.ofNat 32 x.toBitVec.toNat
    rw [BitVec.ofNat_toNat, BitVec.setWidth_eq]
  · intro r hr
    unfold bt
    show x.toBitVec.toNat.testBit r = true ↔ _
    rw [Nat.testBit_eq_decide_div_mod_eq, decide_eq_true_eq]
theorem cnt24 {p : Nat → Bool} {n : Nat} (h : ∀ r, r < 24 → (p r = true ↔ n / 2 ^ r % 2 = 1)) : ∀ k, k ≤ 24 → cntS p k = itN k (fun r v => v + n / 2 ^ r % 2) 0
  | 0, _ => rfl
  | k + 1, hk => by
    rw [cntS_s, itN_succ, cnt24 h k (by omega)]
    have h1 := h k (by omega)
    have h2 : n / 2 ^ k % 2 < 2 := Nat.mod_lt _ (by decide)
    generalize n / 2 ^ k % 2 = z at *
    by_cases q : p k = true
    · rw [if_pos q, h1.mp q]
    · rw [if_neg q]
      have : z ≠ 1 := fun e => q (h1.mpr e)
      omega
theorem c_bit {x : Int32} (h : ∀ r, 24 ≤ r → bt x r = false) : Ev 217 (0, [.int x], [], 0, 0, MM Ln σ lo db) K ↔ K (.inl (some (.int (jI (cntS (bt x) 24))))) (MM Ln σ lo db) := by
  obtain ⟨n, hn, rfl, hb⟩ := bt_nat h
  rw [c_bitN hn, bcN_eq n hn, cnt24 hb 24 (Nat.le_refl _)]
  simp only [itN, Nat.pow_zero, Nat.div_one, Nat.zero_add, Nat.reducePow]
theorem cntS_add {p : Nat → Bool} {a : Nat} : ∀ b, cntS p (a + b) = cntS p a + cntS (fun r => p (a + r)) b
  | 0 => by show cntS p a = cntS p a + 0; omega
  | b + 1 => by
    rw [show a + (b + 1) = (a + b) + 1 by omega, cntS_s, cntS_s, cntS_add b]
    split <;> omega
theorem cntS_cg {p q : Nat → Bool} : ∀ n, (∀ i, i < n → p i = q i) → cntS p n = cntS q n
  | 0, _ => rfl
  | n + 1, h => by rw [cntS_s, cntS_s, h n (by omega), cntS_cg n (fun i hi => h i (by omega))]
theorem c_countO (ho : DI o) (hng : ng ≤ 6) (hnd : nd ≤ 12) (hi : i < ng) (hO : OHc σ o ng oh) : Ev 55 (0, [.ref (gA o i), .null, .null], [], 0, 0, MM Ln (LD σ o g ng nd nc) lo db) K ↔ K (.inl (some (.int (jI (cntO oh i))))) (MM Ln (LD σ o g ng nd nc) lo db) := by
  obtain ⟨h1, h2⟩ := hO i hi
  have step : ∀ n, n ≤ 7 → (Ev 55 (0, [.ref (gA o i), .null, .null], [], 0, 0, MM Ln (LD σ o g ng nd nc) lo db) K ↔ Ev 55 (4, [.ref (gA o i), .int (jI (cntS (fun x => oh i x) (24 * n))), .int (jI n)], [], 0, 0, MM Ln (LD σ o g ng nd nc) lo db) K) := by
    intro n
    induction n with
    | zero => intro _; simp only [s_55_0, s_55_1, s_55_2, s_55_3, s_55_5, s_55_7, s_55_10, s_55_11, s_55_12, s_55_15, s_55_16, s_55_17, r_55_17, s_55_20, s_55_21, s_55_22, s_55_25, s_55_28, s_55_29]; rfl
    | succ n ih =>
      intro hn
      have e : cntS (bt (σ (ohA o i) n)) 24 = cntS (fun r => oh i (24 * n + r)) 24 := cntS_cg 24 (fun r hr => by
        have := h1 (24 * n + r) (by omega)
        rw [show (24 * n + r) / 24 = n by omega, show (24 * n + r) % 24 = r by omega] at this
        exact this)
      rw [ih (by omega), s_55_4]
      simp (disch := first | assumption | omega) only [s_55_0, s_55_1, s_55_2, s_55_3, s_55_5, s_55_7, s_55_10, s_55_11, s_55_12, s_55_15, s_55_16, s_55_17, r_55_17, s_55_20, s_55_21, s_55_22, s_55_25, s_55_28, s_55_29, jI_mul, jI_add, jI_tnc, jI_ixT, true_and, and_true, bZ_0, bZ_1, bZ_b, jI_nz, jI_div, jI_rem, jI_mod, Nat.add_zero, bI_if, not_false_iff, if_true, if_false, eq_self, jI_le, LD_oh, c_bit (fun r hr => h2 n r (by omega) hr)]
      rw [if_neg (by omega), e, ← cntS_add]
      rfl
  rw [step 7 (by omega), s_55_4]
  simp (disch := first | assumption | omega) only [s_55_0, s_55_1, s_55_2, s_55_3, s_55_5, s_55_7, s_55_10, s_55_11, s_55_12, s_55_15, s_55_16, s_55_17, r_55_17, s_55_20, s_55_21, s_55_22, s_55_25, s_55_28, s_55_29, jI_mul, jI_add, jI_tnc, jI_ixT, true_and, and_true, bZ_0, bZ_1, bZ_b, jI_nz, jI_div, jI_rem, jI_mod, Nat.add_zero, bI_if, not_false_iff, if_true, if_false, eq_self, jI_le, Nat.le_refl, if_true]
  rfl
theorem c_until (ho : DI o) (hng : ng ≤ 6) (hnd : nd ≤ 12) (hi : i < ng) (hO : OHc σ o ng oh) (hh : h < 2000000000) (F : (∀ n, n < 168 → ¬ oh i ((h + n) % 168) = true) → K (.inl (some (.int jm1))) (MM Ln (LD σ o g ng nd nc) lo db))
    (H : ∀ n, n < 168 → oh i ((h + n) % 168) = true → (∀ j, j < n → ¬ oh i ((h + j) % 168) = true) → K (.inl (some (.int (jI n)))) (MM Ln (LD σ o g ng nd nc) lo db)) :
    Ev 56 (0, [.ref (gA o i), .int (jI h), .null], [], 0, 0, MM Ln (LD σ o g ng nd nc) lo db) K := by
  simp (disch := first | assumption | omega) only [s_56_0, s_56_1, s_56_3, s_56_6, s_56_9, s_56_10, s_56_11, s_56_12, s_56_13, r_56_13, s_56_16, s_56_19, s_56_20, s_56_21, s_56_24, s_56_27, s_56_28, jI_mul, jI_add, jI_tnc, jI_ixT, true_and, and_true, bZ_0, bZ_1, bZ_b, jI_nz, jI_div, jI_rem, jI_mod, Nat.add_zero, bI_if, not_false_iff, if_true, if_false, eq_self]
  refine lup0 168 (fun n x => x = (2, [.ref (gA o i), .int (jI h), .int (jI n)], [], 0, 0, MM Ln (LD σ o g ng nd nc) lo db) ∧ ∀ j, j < n → ¬ oh i ((h + j) % 168) = true) ⟨rfl, fun j hj => absurd hj (Nat.not_lt_zero j)⟩ ?_ ?_
  · rintro n x hn' ⟨rfl, hno⟩ hn
    rw [s_56_2]
    simp (disch := first | assumption | omega) only [s_56_0, s_56_1, s_56_3, s_56_6, s_56_9, s_56_10, s_56_11, s_56_12, s_56_13, r_56_13, s_56_16, s_56_19, s_56_20, s_56_21, s_56_24, s_56_27, s_56_28, jI_mul, jI_add, jI_tnc, jI_ixT, true_and, and_true, bZ_0, bZ_1, bZ_b, jI_nz, jI_div, jI_rem, jI_mod, Nat.add_zero, bI_if, not_false_iff, if_true, if_false, eq_self, jI_le, c_openIn ho hng hi hO (show h + n < 2147483648 by omega)]
    rw [if_neg (by omega)]
    by_cases q : oh i ((h + n) % 168) = true
    · rw [if_pos q]
      exact H n hn' q hno
    · rw [if_neg q]
      refine hn _ ⟨rfl, fun j hj e => ?_⟩
      by_cases hji : j = n
      · subst hji; exact q e
      · exact hno j (by omega) e
  · rintro x ⟨rfl, hno⟩
    rw [s_56_2]
    simp (disch := first | assumption | omega) only [s_56_0, s_56_1, s_56_3, s_56_6, s_56_9, s_56_10, s_56_11, s_56_12, s_56_13, r_56_13, s_56_16, s_56_19, s_56_20, s_56_21, s_56_24, s_56_27, s_56_28, jI_mul, jI_add, jI_tnc, jI_ixT, true_and, and_true, bZ_0, bZ_1, bZ_b, jI_nz, jI_div, jI_rem, jI_mod, Nat.add_zero, bI_if, not_false_iff, if_true, if_false, eq_self, jI_le, Nat.le_refl, if_true]
    exact F hno
/-- a row of hours behind a change -/
def shH (σ : Nat → Nat → Int32) (a y : Nat) (p : Bool) : Nat → Nat → Int32 := u2 σ a (y / 24) (if p = true then σ a (y / 24) ||| (jI 1 <<< (jI (y % 24) &&& 31)) else σ a (y / 24) &&& ((jI 1 <<< (jI (y % 24) &&& 31)) ^^^ jm1))
theorem bt_or' {x : Int32} {q r : Nat} (hq : q < 24) (hr : 24 ≤ r) : bt (x ||| (jI 1 <<< (jI q &&& 31))) r = bt x r := by
  unfold bt
  rw [Int32.toBitVec_or, shl_bv (by omega), BitVec.getLsbD_or, BitVec.getLsbD_twoPow]
  have : ¬ q = r := by omega
  simp [this]
theorem bt_off' {x : Int32} {q r : Nat} (hr : bt x r = false) : bt (x &&& ((jI 1 <<< (jI q &&& 31)) ^^^ jm1)) r = false := by
  unfold bt at hr ⊢
  rw [Int32.toBitVec_and, BitVec.getLsbD_and, hr, Bool.false_and]
theorem OHc_set {y : Nat} {p : Bool} (hi : i < ng) (hng : ng ≤ 6) (hy : y < 168) (hO : OHc σ o ng oh) : OHc (shH σ (ohA o i) y p) o ng (ohU oh i y p) := by
  intro j hj
  by_cases hji : j = i
  · subst hji
    obtain ⟨h1, h2⟩ := hO j hj
    refine ⟨fun x hx => ?_, fun d r hd hr => ?_⟩
    · have h0 := h1 x hx
      unfold shH ohU
      by_cases hd : x / 24 = y / 24
      · rw [hd, u2_at]
        rw [hd] at h0
        cases p with
        | true =>
          rw [if_pos rfl, bt_or (by omega) (by omega), h0]
          by_cases hxy : x = y
          · subst hxy; simp
          · rw [if_neg (fun e => hxy e.2)]
            have : ¬ x % 24 = y % 24 := by omega
            simp [this]
        | false =>
          rw [if_neg (by decide), bt_off (by omega) (by omega), h0]
          by_cases hxy : x = y
          · subst hxy; simp
          · rw [if_neg (fun e => hxy e.2)]
            have : ¬ x % 24 = y % 24 := by omega
            simp [this]
      · rw [u2_nk hd, h0, if_neg (fun e => hd (by rw [e.2]))]
    · unfold shH
      by_cases hd2 : d = y / 24
      · subst hd2
        rw [u2_at]
        cases p with
        | true => rw [if_pos rfl, bt_or' (by omega) hr]; exact h2 _ r hd hr
        | false => rw [if_neg (by decide)]; exact bt_off' (h2 _ r hd hr)
      · rw [u2_nk hd2]; exact h2 d r hd hr
  · have e : ∀ d, shH σ (ohA o i) y p (ohA o j) d = σ (ohA o j) d := fun d => u2_na (by unfold ohA; omega)
    obtain ⟨h1, h2⟩ := hO j hj
    refine ⟨fun x hx => ?_, fun d r hd hr => ?_⟩
    · rw [e]
      unfold ohU
      rw [if_neg (fun e => hji e.1)]
      exact h1 x hx
    · rw [e]; exact h2 d r hd hr
theorem c_setHour {y : Nat} {p : Bool} (ho : DI o) (hng : ng ≤ 6) (hnd : nd ≤ 12) (hi : i < ng) (hy : y < 2147483648) : Ev 53 (0, [.ref (gA o i), .int (jI y), .int (bI (p = true)), .null, .null, .null], [], 0, 0, MM Ln (LD σ o g ng nd nc) lo db) K ↔ K (.inl none) (MM Ln (LD (shH σ (ohA o i) (y % 168) p) o g ng nd nc) lo db) := by
  unfold shH
  simp (disch := first | assumption | omega) only [s_53_0, s_53_1, s_53_4, r_53_4, s_53_7, s_53_8, s_53_9, s_53_11, s_53_12, s_53_14, s_53_15, s_53_16, s_53_18, s_53_19, s_53_20, s_53_22, s_53_23, s_53_26, s_53_28, s_53_29, s_53_32, s_53_33, s_53_36, s_53_38, s_53_39, s_53_41, s_53_42, s_53_45, s_53_46, s_53_49, s_53_51, s_53_52, s_53_54, s_53_55, s_53_56, s_53_57, s_53_58, jI_mul, jI_add, jI_tnc, jI_ixT, true_and, and_true, bZ_0, bZ_1, bZ_b, jI_nz, jI_div, jI_rem, jI_mod, Nat.add_zero, bI_if, not_false_iff, if_true, if_false, eq_self, m_floorMod, LD_oh, LD_uoh]
  cases p <;> simp only [if_true, if_false, Bool.false_eq_true]
theorem c_setT {y : Nat} (ho : DI o) (hng : ng ≤ 6) (hnd : nd ≤ 12) (hi : i < ng) (hy : y < 2147483648) : Ev 53 (0, [.ref (gA o i), .int (jI y), .int (jI 1), .null, .null, .null], [], 0, 0, MM Ln (LD σ o g ng nd nc) lo db) K ↔ K (.inl none) (MM Ln (LD (shH σ (ohA o i) (y % 168) true) o g ng nd nc) lo db) := c_setHour (p := true) ho hng hnd hi hy
/-- hours from a on, n of them -/
def shN (σ : Nat → Nat → Int32) (r a : Nat) (p : Bool) (n : Nat) : Nat → Nat → Int32 := itN n (fun i σ => shH σ r (a + i) p) σ
theorem shH_o {r y x : Nat} {p : Bool} (h : x ≠ r) : shH σ r y p x = σ x := by funext k; exact u2_na h
theorem shN_o {r a x : Nat} {p : Bool} (h : x ≠ r) : ∀ n, shN σ r a p n x = σ x
  | 0 => rfl
  | n + 1 => by
    have e : shN σ r a p (n + 1) = shH (shN σ r a p n) r (a + n) p := rfl
    rw [e, shH_o h, shN_o h n]
theorem OHc_setN {a : Nat} {p : Bool} (hi : i < ng) (hng : ng ≤ 6) (hO : OHc σ o ng oh) : ∀ n, a + n ≤ 168 → OHc (shN σ (ohA o i) a p n) o ng (ohR oh i a p n)
  | 0, _ => by rw [ohR_0]; exact hO
  | n + 1, hn => by
    have := OHc_set (y := a + n) (p := p) hi hng (by omega) (OHc_setN (a := a) (p := p) hi hng hO n (by omega))
    rw [ohR_s] at this
    exact this
theorem c_setHours {a n : Nat} {p : Bool} (ho : DI o) (hng : ng ≤ 6) (hnd : nd ≤ 12) (hi : i < ng) (hn : a + n < 168) : Ev 54 (0, [.ref (gA o i), .int (jI a), .int (jI (a + n)), .int (bI (p = true)), .null], [], 0, 0, MM Ln (LD σ o g ng nd nc) lo db) K ↔ K (.inl none) (MM Ln (LD (shN σ (ohA o i) a p (n + 1)) o g ng nd nc) lo db) := by
  have step : ∀ j, j ≤ n + 1 → (Ev 54 (0, [.ref (gA o i), .int (jI a), .int (jI (a + n)), .int (bI (p = true)), .null], [], 0, 0, MM Ln (LD σ o g ng nd nc) lo db) K ↔ Ev 54 (3, [.ref (gA o i), .int (jI a), .int (jI (a + n)), .int (bI (p = true)), .int (jI (a + j))], [], 0, 0, MM Ln (LD (shN σ (ohA o i) a p j) o g ng nd nc) lo db) K) := by
    intro j
    induction j with
    | zero => intro _; simp only [s_54_0, s_54_1, s_54_5, s_54_6, s_54_9, s_54_10, s_54_12, s_54_13, r_54_13, s_54_16, s_54_19, s_54_22]; rfl
    | succ j ih =>
      intro hj
      rw [ih (by omega), s_54_3]
      simp (disch := first | assumption | omega) only [s_54_0, s_54_1, s_54_5, s_54_6, s_54_9, s_54_10, s_54_12, s_54_13, r_54_13, s_54_16, s_54_19, s_54_22, jI_mul, jI_add, jI_tnc, jI_ixT, true_and, and_true, bZ_0, bZ_1, bZ_b, jI_nz, jI_div, jI_rem, jI_mod, Nat.add_zero, bI_if, not_false_iff, if_true, if_false, eq_self, jI_lt, c_setHour]
      rw [if_neg (by omega), Nat.mod_eq_of_lt (show a + j < 168 by omega)]
      rfl
  rw [step (n + 1) (by omega), s_54_3]
  simp (disch := first | assumption | omega) only [s_54_0, s_54_1, s_54_5, s_54_6, s_54_9, s_54_10, s_54_12, s_54_13, r_54_13, s_54_16, s_54_19, s_54_22, jI_mul, jI_add, jI_tnc, jI_ixT, true_and, and_true, bZ_0, bZ_1, bZ_b, jI_nz, jI_div, jI_rem, jI_mod, Nat.add_zero, bI_if, not_false_iff, if_true, if_false, eq_self, jI_lt]
  rw [if_pos (by omega)]
end
