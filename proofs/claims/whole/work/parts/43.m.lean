/-! THE REFERENCE: the hours of the gates -/
set_option maxRecDepth 16384
section
variable {K : Ou → Me → Prop} {Ln : Nat} {σ : Nat → Nat → Int32} {g : Gr} {lo : Nat → Nat → Int64} {db : Nat → Nat → UInt64} {μ : Me} {ch : Nat} {wi : Bool} {oh : Nat → Nat → Bool} {ng nd nc h : Nat}
def opS (g : Gr) (k x : Nat) (p : Bool) : Gr := gu g (15 + 10 * k + 4 + x / 28) (if p = true then g (15 + 10 * k + 4 + x / 28) ||| (jI 1 <<< (jI (x % 28) &&& 31)) else g (15 + 10 * k + 4 + x / 28) &&& ((jI 1 <<< (jI (x % 28) &&& 31)) ^^^ jm1))
def ohU (oh : Nat → Nat → Bool) (k x : Nat) (p : Bool) : Nat → Nat → Bool := fun i y => if i = k ∧ y = x then p else oh i y
theorem opS_oh {k x : Nat} {p : Bool} (hx : x < 168) (hO : OHm g oh) : OHm (opS g k x p) (ohU oh k x p) := by
  intro i y hi hy
  have h0 := hO i y hi hy
  rw [bit_iff (by omega)] at h0 ⊢
  unfold opS ohU
  by_cases hc : 15 + 10 * i + (4 + y / 28) = 15 + 10 * k + 4 + x / 28
  · have hik : i = k := by omega
    subst hik
    have hq : y / 28 = x / 28 := by omega
    rw [show 15 + 10 * i + (4 + y / 28) = 15 + 10 * i + 4 + x / 28 from hc] at h0 ⊢
    rw [gu_at]
    have he : (y % 28 = x % 28) ↔ y = x := by omega
    cases p with
    | true =>
      rw [if_pos rfl, bt_or (by omega) (by omega)]
      by_cases hyx : y = x
      · rw [if_pos ⟨rfl, hyx⟩, hyx]; simp
      · rw [if_neg (fun e => hyx e.2), ← h0]
        simp [he, hyx]
    | false =>
      rw [if_neg (by decide), bt_off (by omega) (by omega)]
      by_cases hyx : y = x
      · rw [if_pos ⟨rfl, hyx⟩, hyx]; simp
      · rw [if_neg (fun e => hyx e.2), ← h0]
        simp [he, hyx]
  · rw [gu_ne hc]
    by_cases hyx : i = k ∧ y = x
    · exact absurd (by rw [hyx.1, hyx.2]; omega) hc
    · rw [if_neg hyx]
      exact h0
theorem m_opens {k x : Nat} {p : Bool} (hk : k < 6) (hx : x < 168) : Ev 129 (0, [.ref 368, .int (jI k), .int (jI x), .int (bI (p = true)), .null], [], 0, 0, MM Ln (MG σ g) lo db) K ↔ K (.inl none) (MM Ln (MG σ (opS g k x p)) lo db) := by
  simp (disch := omega) only [s_129_0, s_129_2, s_129_4, s_129_5, s_129_6, s_129_7, s_129_8, s_129_9, s_129_10, s_129_12, s_129_13, s_129_14, s_129_16, s_129_17, s_129_20, s_129_22, s_129_23, s_129_26, s_129_27, s_129_30, s_129_32, s_129_33, s_129_34, s_129_35, s_129_37, s_129_38, s_129_39, s_129_40, s_129_43, s_129_44, s_129_47, s_129_49, s_129_50, s_129_51, s_129_52, s_129_54, s_129_55, s_129_56, s_129_57, s_129_58, s_129_59, s_129_60, jI_mul, jI_add, jI_tnc, jI_ixT, true_and, and_true, bZ_0, bZ_1, bZ_b, jI_nz, jI_div, jI_rem, jI_mod, Nat.add_zero, bI_if, not_false_iff, if_true, if_false, eq_self, MG_g, MG_u]
  unfold opS
  cases p <;> simp only [if_true, if_false, Bool.false_eq_true]
def cntO (oh : Nat → Nat → Bool) (k : Nat) : Nat := cntS (fun x => oh k x) 168
theorem m_openHours {k : Nat} (hk : k < 6) (hO : OHm g oh) : Ev 130 (0, [.ref 368, .int (jI k), .null, .null], [], 0, 0, MM Ln (MG σ g) lo db) K ↔ K (.inl (some (.int (jI (cntO oh k))))) (MM Ln (MG σ g) lo db) := by
  have step : ∀ i, i ≤ 168 → (Ev 130 (0, [.ref 368, .int (jI k), .null, .null], [], 0, 0, MM Ln (MG σ g) lo db) K ↔ Ev 130 (4, [.ref 368, .int (jI k), .int (jI (cntS (fun x => oh k x) i)), .int (jI i)], [], 0, 0, MM Ln (MG σ g) lo db) K) := by
    intro i
    induction i with
    | zero => intro _; simp only [s_130_0, s_130_1, s_130_2, s_130_3, s_130_5, s_130_8, s_130_11, s_130_12, s_130_13, s_130_14, s_130_15, r_130_15, s_130_18, s_130_21, s_130_22, s_130_25, s_130_26, s_130_27, s_130_28, s_130_31, s_130_34, s_130_35]; rfl
    | succ i ih =>
      intro hi
      rw [ih (by omega), s_130_4]
      simp (disch := omega) only [s_130_0, s_130_1, s_130_2, s_130_3, s_130_5, s_130_8, s_130_11, s_130_12, s_130_13, s_130_14, s_130_15, r_130_15, s_130_18, s_130_21, s_130_22, s_130_25, s_130_26, s_130_27, s_130_28, s_130_31, s_130_34, s_130_35, jI_mul, jI_add, jI_tnc, jI_ixT, true_and, and_true, bZ_0, bZ_1, bZ_b, jI_nz, jI_div, jI_rem, jI_mod, Nat.add_zero, bI_if, not_false_iff, if_true, if_false, eq_self, jI_le, m_openS hO]
      rw [if_neg (by omega)]
      have e : cntS (fun x => oh k x) (i + 1) = if oh k i = true then cntS (fun x => oh k x) i + 1 else cntS (fun x => oh k x) i := by
        unfold cntS; rw [itN_succ]
      rw [e]
      by_cases h : oh k i = true <;> simp only [h, if_true, if_false, Bool.false_eq_true]
  rw [step 168 (by omega), s_130_4]
  simp (disch := omega) only [s_130_0, s_130_1, s_130_2, s_130_3, s_130_5, s_130_8, s_130_11, s_130_12, s_130_13, s_130_14, s_130_15, r_130_15, s_130_18, s_130_21, s_130_22, s_130_25, s_130_26, s_130_27, s_130_28, s_130_31, s_130_34, s_130_35, jI_mul, jI_add, jI_tnc, jI_ixT, true_and, and_true, bZ_0, bZ_1, bZ_b, jI_nz, jI_div, jI_rem, jI_mod, Nat.add_zero, bI_if, not_false_iff, if_true, if_false, eq_self, jI_le, Nat.le_refl]
  rfl
end
