/-! THE REFERENCE: bestHour, isWell, share, meanThirst -/
set_option maxRecDepth 16384
section
variable {K : Ou → Me → Prop} {Ln : Nat} {σ : Nat → Nat → Int32} {g : Gr} {lo : Nat → Nat → Int64} {db : Nat → Nat → UInt64} {μ : Me} {ch : Nat} {wi : Bool} {oh : Nat → Nat → Bool} {ng nd nc h : Nat}
/-- what a trial may change -/
def Tf (σ σ' : Nat → Nat → Int32) : Prop := (∀ a, a ≠ 375 → a ≠ 373 → a ≠ 368 → a ≠ 369 → σ' a = σ a) ∧ ∀ j, j ≠ 16 → σ' 368 j = σ 368 j
theorem Tf.refl : Tf σ σ := ⟨fun _ _ _ _ _ => rfl, fun _ _ => rfl⟩
theorem Tf.trans {σ σ' σ'' : Nat → Nat → Int32} (h : Tf σ σ') (h' : Tf σ' σ'') : Tf σ σ'' :=
  ⟨fun a h1 h2 h3 h4 => (h'.1 a h1 h2 h3 h4).trans (h.1 a h1 h2 h3 h4), fun k hk => (h'.2 k hk).trans (h.2 k hk)⟩
theorem m_opT {k x : Nat} (hk : k < 6) (hx : x < 168) : Ev 129 (0, [.ref 368, .int (jI k), .int (jI x), .int (jI 1), .null], [], 0, 0, MM Ln (MG σ g) lo db) K ↔ K (.inl none) (MM Ln (MG σ (opS g k x true)) lo db) := m_opens (p := true) hk hx
theorem m_opF {k x : Nat} (hk : k < 6) (hx : x < 168) : Ev 129 (0, [.ref 368, .int (jI k), .int (jI x), .int (jI 0), .null], [], 0, 0, MM Ln (MG σ g) lo db) K ↔ K (.inl none) (MM Ln (MG σ (opS g k x false)) lo db) := m_opens (p := false) hk hx
theorem bt_back {x : Int32} {q : Nat} (hq : q < 31) (h : bt x q = false) : (x ||| (jI 1 <<< (jI q &&& 31))) &&& ((jI 1 <<< (jI q &&& 31)) ^^^ jm1) = x := by
  rw [← Int32.toBitVec_inj, Int32.toBitVec_and, Int32.toBitVec_or, Int32.toBitVec_xor, shl_bv hq, show jm1.toBitVec = BitVec.allOnes 32 from rfl]
  apply BitVec.eq_of_getLsbD_eq
  intro i hi
  rw [BitVec.getLsbD_and, BitVec.getLsbD_or, BitVec.getLsbD_xor, BitVec.getLsbD_twoPow, BitVec.getLsbD_allOnes]
  unfold bt at h
  by_cases h0 : q = i
  · subst h0; rw [h]; simp [hi]
  · simp [h0, hi]
theorem opS_back {k x : Nat} (hk : k < 6) (hx : x < 168) (hO : OHm g oh) (hn : ¬ oh k x = true) : opS (opS g k x true) k x false = g := by
  have h0 := hO k x hk hx
  rw [bit_iff (by omega)] at h0
  funext j
  unfold opS
  by_cases hj : j = 15 + 10 * k + 4 + x / 28
  · subst hj
    rw [gu_at, if_neg (by decide), gu_at, if_pos rfl]
    refine bt_back (by omega) ?_
    rw [show 15 + 10 * k + (4 + x / 28) = 15 + 10 * k + 4 + x / 28 by omega] at h0
    cases e : bt (g (15 + 10 * k + 4 + x / 28)) (x % 28) with
    | false => rfl
    | true => exact absurd (h0.mp e) hn
  · rw [gu_ne hj, gu_ne hj]
theorem opS_o {k x j : Nat} {p : Bool} (hj : j ≠ 15 + 10 * k + 4 + x / 28) : opS g k x p j = g j := gu_ne hj
theorem Bas_op {k x : Nat} {p : Bool} (hk : k < 6) (hx : x < 168) (hB : Bas g oh ng nd nc h) : Bas (opS g k x p) (ohU oh k x p) ng nd nc h := by
  obtain ⟨b1, b2, b3, b4, b5, b6, b7, b8, b9⟩ := hB
  refine ⟨b1, b2, b3, ?_, ?_, ?_, ?_, opS_oh hx b8, ?_⟩
  · rw [opS_o (by omega)]; exact b4
  · rw [opS_o (by omega)]; exact b5
  · rw [opS_o (by omega)]; exact b6
  · rw [opS_o (by omega)]; exact b7
  · intro i hi
    rw [opS_o (by omega), opS_o (by omega)]
    exact b9 i hi
/-- what a gate would take if it was opened in the hour i from now -/
def bhT (oh : Nat → Nat → Bool) (ng nd nc h : Nat) (g : Gr) (k i : Nat) : Int32 :=
  (hoursS (ohU oh k ((h + i) % 168) true) ng nd nc h (opS g k ((h + i) % 168) true) 24).1 (15 + 10 * k + 2) - opS g k ((h + i) % 168) true (15 + 10 * k + 2)
def bhStep (oh : Nat → Nat → Bool) (ng nd nc h : Nat) (g : Gr) (k i : Nat) (z : Option Nat × Int32) : Option Nat × Int32 :=
  if oh k ((h + i) % 168) = true then z else if z.1.isSome = true ∧ bhT oh ng nd nc h g k i ≤ z.2 then z else (some i, bhT oh ng nd nc h g k i)
def bhN (oh : Nat → Nat → Bool) (ng nd nc h : Nat) (g : Gr) (k n : Nat) : Option Nat × Int32 := itN n (bhStep oh ng nd nc h g k) (none, jI 0)
def bhV (h : Nat) (z : Option Nat) : Int32 := match z with
  | none => jm1
  | some i => jI (h + i)
theorem m_bestHour {v : Int32} (hB : Bas g oh ng nd nc h) (hh : h < 2000000000) (F1 : ¬ hs v ng → K (.inl (some (.int (jI 0)))) (MM Ln (MG (u2 σ 368 8 (jI 1)) g) lo db))
    (F2 : ∀ k σ', k < ng → v = jI k → (bhN oh ng nd nc h g k 24).1 = none → Tf (u2 σ 368 8 (jI 0)) σ' → K (.inl (some (.int (jI 0)))) (MM Ln (MG (u2 σ' 368 8 (jI 2)) g) lo db))
    (H : ∀ k i σ', k < ng → v = jI k → i < 24 → (bhN oh ng nd nc h g k 24).1 = some i → Tf (u2 σ 368 8 (jI 0)) σ' → K (.inl (some (.int (jI (h + i))))) (MM Ln (MG (u2 σ' 368 8 (jI 0)) g) lo db)) :
    Ev 165 (0, [.ref 368, .int v, .null, .null, .null, .null], [], 0, 0, MM Ln (MG σ g) lo db) K := by
  have hB0 := hB
  obtain ⟨b1, b2, b3, b4, b5, b6, b7, b8, b9⟩ := hB
  simp (disch := omega) only [s_165_0, s_165_1, s_165_2, s_165_3, r_165_3, s_165_6, s_165_9, s_165_10, s_165_13, s_165_14, r_165_14, s_165_17, s_165_20, s_165_21, s_165_22, s_165_23, s_165_24, s_165_25, s_165_26, s_165_27, s_165_30, s_165_31, s_165_32, s_165_36, s_165_37, s_165_40, s_165_41, s_165_42, s_165_44, s_165_45, s_165_48, s_165_49, s_165_50, s_165_52, s_165_55, s_165_56, r_165_56, s_165_59, s_165_62, s_165_65, s_165_66, s_165_67, s_165_69, s_165_72, s_165_73, s_165_74, r_165_74, s_165_77, s_165_78, s_165_79, s_165_81, r_165_81, s_165_84, s_165_86, s_165_87, s_165_88, s_165_90, s_165_93, s_165_94, s_165_95, r_165_95, s_165_98, s_165_99, s_165_102, s_165_104, s_165_105, s_165_108, s_165_111, s_165_113, s_165_114, s_165_116, s_165_117, s_165_120, s_165_123, s_165_124, s_165_125, s_165_128, s_165_129, s_165_132, s_165_133, r_165_133, s_165_136, s_165_139, s_165_140, s_165_143, s_165_144, jI_mul, jI_add, jI_tnc, jI_ixT, true_and, and_true, bZ_0, bZ_1, bZ_b, jI_nz, jI_div, jI_rem, jI_mod, Nat.add_zero, bI_if, not_false_iff, if_true, if_false, eq_self, MG_g, m_isGate b1 b5]
  by_cases h1 : hs v ng
  · obtain ⟨k, hk, rfl⟩ := hs_of h1 (by omega)
    rw [if_pos h1]
    have F2 := F2 k
    have H := H k
    simp (disch := omega) only [s_165_0, s_165_1, s_165_2, s_165_3, r_165_3, s_165_6, s_165_9, s_165_10, s_165_13, s_165_14, r_165_14, s_165_17, s_165_20, s_165_21, s_165_22, s_165_23, s_165_24, s_165_25, s_165_26, s_165_27, s_165_30, s_165_31, s_165_32, s_165_36, s_165_37, s_165_40, s_165_41, s_165_42, s_165_44, s_165_45, s_165_48, s_165_49, s_165_50, s_165_52, s_165_55, s_165_56, r_165_56, s_165_59, s_165_62, s_165_65, s_165_66, s_165_67, s_165_69, s_165_72, s_165_73, s_165_74, r_165_74, s_165_77, s_165_78, s_165_79, s_165_81, r_165_81, s_165_84, s_165_86, s_165_87, s_165_88, s_165_90, s_165_93, s_165_94, s_165_95, r_165_95, s_165_98, s_165_99, s_165_102, s_165_104, s_165_105, s_165_108, s_165_111, s_165_113, s_165_114, s_165_116, s_165_117, s_165_120, s_165_123, s_165_124, s_165_125, s_165_128, s_165_129, s_165_132, s_165_133, r_165_133, s_165_136, s_165_139, s_165_140, s_165_143, s_165_144, jI_mul, jI_add, jI_tnc, jI_ixT, true_and, and_true, bZ_0, bZ_1, bZ_b, jI_nz, jI_div, jI_rem, jI_mod, Nat.add_zero, bI_if, not_false_iff, if_true, if_false, eq_self, m_fail0, MG_g, b4]
    have hlt : ∀ n, n ≤ 24 → ∀ i, (bhN oh ng nd nc h g k n).1 = some i → i < n := by
      intro n
      induction n with
      | zero => intro _ i e; cases e
      | succ n ih =>
        intro hn i e
        have en : bhN oh ng nd nc h g k (n + 1) = bhStep oh ng nd nc h g k n (bhN oh ng nd nc h g k n) := rfl
        rw [en] at e
        unfold bhStep at e
        split at e
        · have := ih (by omega) i e; omega
        · split at e
          · have := ih (by omega) i e; omega
          · cases e; omega
    refine lup0 24 (fun i x => ∃ σ' s, x = (34, [.ref 368, .int (jI k), .int (bhV h (bhN oh ng nd nc h g k i).1), .int (bhN oh ng nd nc h g k i).2, .int (jI (h + i)), s], [], 0, 0, MM Ln (MG σ' g) lo db) ∧ Tf (u2 σ 368 8 (jI 0)) σ') ⟨_, _, rfl, Tf.refl⟩ ?_ ?_
    · rintro i x hi ⟨σ', s, rfl, f1⟩ hn
      have en : bhN oh ng nd nc h g k (i + 1) = bhStep oh ng nd nc h g k i (bhN oh ng nd nc h g k i) := rfl
      have hl := hlt i (by omega)
      rw [en] at hn
      generalize bhN oh ng nd nc h g k i = z at *
      unfold bhStep at hn
      rw [s_165_34]
      simp (disch := omega) only [s_165_0, s_165_1, s_165_2, s_165_3, r_165_3, s_165_6, s_165_9, s_165_10, s_165_13, s_165_14, r_165_14, s_165_17, s_165_20, s_165_21, s_165_22, s_165_23, s_165_24, s_165_25, s_165_26, s_165_27, s_165_30, s_165_31, s_165_32, s_165_36, s_165_37, s_165_40, s_165_41, s_165_42, s_165_44, s_165_45, s_165_48, s_165_49, s_165_50, s_165_52, s_165_55, s_165_56, r_165_56, s_165_59, s_165_62, s_165_65, s_165_66, s_165_67, s_165_69, s_165_72, s_165_73, s_165_74, r_165_74, s_165_77, s_165_78, s_165_79, s_165_81, r_165_81, s_165_84, s_165_86, s_165_87, s_165_88, s_165_90, s_165_93, s_165_94, s_165_95, r_165_95, s_165_99, s_165_102, s_165_104, s_165_105, s_165_108, s_165_111, s_165_113, s_165_114, s_165_116, s_165_117, s_165_120, s_165_123, s_165_124, s_165_125, s_165_128, s_165_129, s_165_132, s_165_133, r_165_133, s_165_136, s_165_139, s_165_140, s_165_143, s_165_144, jI_mul, jI_add, jI_tnc, jI_ixT, true_and, and_true, bZ_0, bZ_1, bZ_b, jI_nz, jI_div, jI_rem, jI_mod, Nat.add_zero, bI_if, not_false_iff, if_true, if_false, eq_self, MG_g, b4, jI_le, m_openS b8]
      rw [if_neg (by omega)]
      by_cases ho : oh k ((h + i) % 168) = true
      · rw [if_pos ho]
        simp only [if_pos ho] at hn
        exact hn _ ⟨_, _, rfl, f1⟩
      · rw [if_neg ho]
        simp only [if_neg ho] at hn
        have hx : (h + i) % 168 < 168 := Nat.mod_lt _ (by decide)
        simp (disch := omega) only [s_165_0, s_165_1, s_165_2, s_165_3, r_165_3, s_165_6, s_165_9, s_165_10, s_165_13, s_165_14, r_165_14, s_165_17, s_165_20, s_165_21, s_165_22, s_165_23, s_165_24, s_165_25, s_165_26, s_165_27, s_165_30, s_165_31, s_165_32, s_165_36, s_165_37, s_165_40, s_165_41, s_165_42, s_165_44, s_165_45, s_165_48, s_165_49, s_165_50, s_165_52, s_165_55, s_165_56, r_165_56, s_165_59, s_165_62, s_165_65, s_165_66, s_165_67, s_165_69, s_165_72, s_165_73, s_165_74, r_165_74, s_165_77, s_165_78, s_165_79, s_165_81, r_165_81, s_165_84, s_165_86, s_165_87, s_165_88, s_165_90, s_165_93, s_165_94, s_165_95, r_165_95, s_165_99, s_165_102, s_165_104, s_165_105, s_165_108, s_165_111, s_165_113, s_165_114, s_165_116, s_165_117, s_165_120, s_165_123, s_165_124, s_165_125, s_165_128, s_165_129, s_165_132, s_165_133, r_165_133, s_165_136, s_165_139, s_165_140, s_165_143, s_165_144, jI_mul, jI_add, jI_tnc, jI_ixT, true_and, and_true, bZ_0, bZ_1, bZ_b, jI_nz, jI_div, jI_rem, jI_mod, Nat.add_zero, bI_if, not_false_iff, if_true, if_false, eq_self, m_opT]
        refine m_takesIn (oh := ohU oh k ((h + i) % 168) true) (by omega) (by decide) (Bas_op (by omega) hx hB0) hh ?_
        intro σ'' f2 f3
        simp (disch := omega) only [s_165_0, s_165_1, s_165_2, s_165_3, r_165_3, s_165_6, s_165_9, s_165_10, s_165_13, s_165_14, r_165_14, s_165_17, s_165_20, s_165_21, s_165_22, s_165_23, s_165_24, s_165_25, s_165_26, s_165_27, s_165_30, s_165_31, s_165_32, s_165_36, s_165_37, s_165_40, s_165_41, s_165_42, s_165_44, s_165_45, s_165_48, s_165_49, s_165_50, s_165_52, s_165_55, s_165_56, r_165_56, s_165_59, s_165_62, s_165_65, s_165_66, s_165_67, s_165_69, s_165_72, s_165_73, s_165_74, r_165_74, s_165_77, s_165_78, s_165_79, s_165_81, r_165_81, s_165_84, s_165_86, s_165_87, s_165_88, s_165_90, s_165_93, s_165_94, s_165_95, r_165_95, s_165_99, s_165_102, s_165_104, s_165_105, s_165_108, s_165_111, s_165_113, s_165_114, s_165_116, s_165_117, s_165_120, s_165_123, s_165_124, s_165_125, s_165_128, s_165_129, s_165_132, s_165_133, r_165_133, s_165_136, s_165_139, s_165_140, s_165_143, s_165_144, jI_mul, jI_add, jI_tnc, jI_ixT, true_and, and_true, bZ_0, bZ_1, bZ_b, jI_nz, jI_div, jI_rem, jI_mod, Nat.add_zero, bI_if, not_false_iff, if_true, if_false, eq_self, m_opF, opS_back (show k < 6 by omega) hx b8 ho]
        have f4 : Tf (u2 σ 368 8 (jI 0)) σ'' := f1.trans ⟨f2, f3⟩
        have hT : (hoursS (ohU oh k ((h + i) % 168) true) ng nd nc h (opS g k ((h + i) % 168) true) 24).1 (15 + 10 * k + 2) - opS g k ((h + i) % 168) true (15 + 10 * k + 2) = bhT oh ng nd nc h g k i := rfl
        rw [hT]
        generalize bhT oh ng nd nc h g k i = T at *
        rw [s_165_98]
        rcases z with ⟨b, most⟩
        cases b with
        | none =>
          have q : (jm1 < jI 0) = True := eq_true (by decide)
          simp only [bhV, s_165_0, s_165_1, s_165_2, s_165_3, r_165_3, s_165_6, s_165_9, s_165_10, s_165_13, s_165_14, r_165_14, s_165_17, s_165_20, s_165_21, s_165_22, s_165_23, s_165_24, s_165_25, s_165_26, s_165_27, s_165_30, s_165_31, s_165_32, s_165_36, s_165_37, s_165_40, s_165_41, s_165_42, s_165_44, s_165_45, s_165_48, s_165_49, s_165_50, s_165_52, s_165_55, s_165_56, r_165_56, s_165_59, s_165_62, s_165_65, s_165_66, s_165_67, s_165_69, s_165_72, s_165_73, s_165_74, r_165_74, s_165_77, s_165_78, s_165_79, s_165_81, r_165_81, s_165_84, s_165_86, s_165_87, s_165_88, s_165_90, s_165_93, s_165_94, s_165_95, r_165_95, s_165_99, s_165_102, s_165_104, s_165_105, s_165_108, s_165_111, s_165_113, s_165_114, s_165_116, s_165_117, s_165_120, s_165_123, s_165_124, s_165_125, s_165_128, s_165_129, s_165_132, s_165_133, r_165_133, s_165_136, s_165_139, s_165_140, s_165_143, s_165_144, jI_mul, jI_add, jI_tnc, jI_ixT, true_and, and_true, bZ_0, bZ_1, bZ_b, jI_nz, jI_div, jI_rem, jI_mod, Nat.add_zero, bI_if, not_false_iff, if_true, if_false, eq_self, q, if_true]
          simp only [Option.isSome_none, Bool.false_eq_true, false_and, if_false] at hn
          exact hn _ ⟨_, _, rfl, f4⟩
        | some b =>
          have hb := hl b rfl
          have q : (jI (h + b) < jI 0) = False := eq_false (by rw [jI_lt (by omega) (by omega)]; omega)
          simp only [bhV, s_165_0, s_165_1, s_165_2, s_165_3, r_165_3, s_165_6, s_165_9, s_165_10, s_165_13, s_165_14, r_165_14, s_165_17, s_165_20, s_165_21, s_165_22, s_165_23, s_165_24, s_165_25, s_165_26, s_165_27, s_165_30, s_165_31, s_165_32, s_165_36, s_165_37, s_165_40, s_165_41, s_165_42, s_165_44, s_165_45, s_165_48, s_165_49, s_165_50, s_165_52, s_165_55, s_165_56, r_165_56, s_165_59, s_165_62, s_165_65, s_165_66, s_165_67, s_165_69, s_165_72, s_165_73, s_165_74, r_165_74, s_165_77, s_165_78, s_165_79, s_165_81, r_165_81, s_165_84, s_165_86, s_165_87, s_165_88, s_165_90, s_165_93, s_165_94, s_165_95, r_165_95, s_165_99, s_165_102, s_165_104, s_165_105, s_165_108, s_165_111, s_165_113, s_165_114, s_165_116, s_165_117, s_165_120, s_165_123, s_165_124, s_165_125, s_165_128, s_165_129, s_165_132, s_165_133, r_165_133, s_165_136, s_165_139, s_165_140, s_165_143, s_165_144, jI_mul, jI_add, jI_tnc, jI_ixT, true_and, and_true, bZ_0, bZ_1, bZ_b, jI_nz, jI_div, jI_rem, jI_mod, Nat.add_zero, bI_if, not_false_iff, if_true, if_false, eq_self, q, if_false]
          simp only [Option.isSome_some, true_and] at hn
          by_cases hm : T ≤ most
          · rw [if_neg (Int32.not_lt.mpr hm)]
            simp only [if_pos hm] at hn
            exact hn _ ⟨_, _, rfl, f4⟩
          · rw [if_pos (Int32.not_le.mp hm)]
            simp only [if_neg hm] at hn
            exact hn _ ⟨_, _, rfl, f4⟩
    · rintro x ⟨σ', s, rfl, f1⟩
      have hl := hlt 24 (by omega)
      rw [s_165_34]
      simp (disch := omega) only [s_165_0, s_165_1, s_165_2, s_165_3, r_165_3, s_165_6, s_165_9, s_165_10, s_165_13, s_165_14, r_165_14, s_165_17, s_165_20, s_165_21, s_165_22, s_165_23, s_165_24, s_165_25, s_165_26, s_165_27, s_165_30, s_165_31, s_165_32, s_165_36, s_165_37, s_165_40, s_165_41, s_165_42, s_165_44, s_165_45, s_165_48, s_165_49, s_165_50, s_165_52, s_165_55, s_165_56, r_165_56, s_165_59, s_165_62, s_165_65, s_165_66, s_165_67, s_165_69, s_165_72, s_165_73, s_165_74, r_165_74, s_165_77, s_165_78, s_165_79, s_165_81, r_165_81, s_165_84, s_165_86, s_165_87, s_165_88, s_165_90, s_165_93, s_165_94, s_165_95, r_165_95, s_165_98, s_165_99, s_165_102, s_165_104, s_165_105, s_165_108, s_165_111, s_165_113, s_165_114, s_165_116, s_165_117, s_165_120, s_165_123, s_165_124, s_165_125, s_165_128, s_165_129, s_165_132, s_165_133, r_165_133, s_165_136, s_165_139, s_165_140, s_165_143, s_165_144, jI_mul, jI_add, jI_tnc, jI_ixT, true_and, and_true, bZ_0, bZ_1, bZ_b, jI_nz, jI_div, jI_rem, jI_mod, Nat.add_zero, bI_if, not_false_iff, if_true, if_false, eq_self, MG_g, b4, jI_le, Nat.le_refl]
      have F2 := F2 σ' hk rfl
      have H := fun i hi => H i σ' hk rfl hi
      generalize bhN oh ng nd nc h g k 24 = z at *
      rcases z with ⟨b, most⟩
      cases b with
      | none =>
        have q : (jI 0 ≤ jm1) = False := eq_false (by decide)
        simp (disch := omega) only [bhV, s_165_0, s_165_1, s_165_2, s_165_3, r_165_3, s_165_6, s_165_9, s_165_10, s_165_13, s_165_14, r_165_14, s_165_17, s_165_20, s_165_21, s_165_22, s_165_23, s_165_24, s_165_25, s_165_26, s_165_27, s_165_30, s_165_31, s_165_32, s_165_36, s_165_37, s_165_40, s_165_41, s_165_42, s_165_44, s_165_45, s_165_48, s_165_49, s_165_50, s_165_52, s_165_55, s_165_56, r_165_56, s_165_59, s_165_62, s_165_65, s_165_66, s_165_67, s_165_69, s_165_72, s_165_73, s_165_74, r_165_74, s_165_77, s_165_78, s_165_79, s_165_81, r_165_81, s_165_84, s_165_86, s_165_87, s_165_88, s_165_90, s_165_93, s_165_94, s_165_95, r_165_95, s_165_98, s_165_99, s_165_102, s_165_104, s_165_105, s_165_108, s_165_111, s_165_113, s_165_114, s_165_116, s_165_117, s_165_120, s_165_123, s_165_124, s_165_125, s_165_128, s_165_129, s_165_132, s_165_133, r_165_133, s_165_136, s_165_139, s_165_140, s_165_143, s_165_144, jI_mul, jI_add, jI_tnc, jI_ixT, true_and, and_true, bZ_0, bZ_1, bZ_b, jI_nz, jI_div, jI_rem, jI_mod, Nat.add_zero, bI_if, not_false_iff, if_true, if_false, eq_self, q, m_fail1]
        exact F2 rfl f1
      | some b =>
        have hb := hl b rfl
        have q : (jI 0 ≤ jI (h + b)) = True := eq_true (by rw [jI_le (by omega) (by omega)]; omega)
        simp (disch := omega) only [bhV, s_165_0, s_165_1, s_165_2, s_165_3, r_165_3, s_165_6, s_165_9, s_165_10, s_165_13, s_165_14, r_165_14, s_165_17, s_165_20, s_165_21, s_165_22, s_165_23, s_165_24, s_165_25, s_165_26, s_165_27, s_165_30, s_165_31, s_165_32, s_165_36, s_165_37, s_165_40, s_165_41, s_165_42, s_165_44, s_165_45, s_165_48, s_165_49, s_165_50, s_165_52, s_165_55, s_165_56, r_165_56, s_165_59, s_165_62, s_165_65, s_165_66, s_165_67, s_165_69, s_165_72, s_165_73, s_165_74, r_165_74, s_165_77, s_165_78, s_165_79, s_165_81, r_165_81, s_165_84, s_165_86, s_165_87, s_165_88, s_165_90, s_165_93, s_165_94, s_165_95, r_165_95, s_165_98, s_165_99, s_165_102, s_165_104, s_165_105, s_165_108, s_165_111, s_165_113, s_165_114, s_165_116, s_165_117, s_165_120, s_165_123, s_165_124, s_165_125, s_165_128, s_165_129, s_165_132, s_165_133, r_165_133, s_165_136, s_165_139, s_165_140, s_165_143, s_165_144, jI_mul, jI_add, jI_tnc, jI_ixT, true_and, and_true, bZ_0, bZ_1, bZ_b, jI_nz, jI_div, jI_rem, jI_mod, Nat.add_zero, bI_if, not_false_iff, if_true, if_false, eq_self, q, m_fail0]
        exact H b hb rfl f1
  · rw [if_neg h1]
    simp (disch := omega) only [s_165_0, s_165_1, s_165_2, s_165_3, r_165_3, s_165_6, s_165_9, s_165_10, s_165_13, s_165_14, r_165_14, s_165_17, s_165_20, s_165_21, s_165_22, s_165_23, s_165_24, s_165_25, s_165_26, s_165_27, s_165_30, s_165_31, s_165_32, s_165_36, s_165_37, s_165_40, s_165_41, s_165_42, s_165_44, s_165_45, s_165_48, s_165_49, s_165_50, s_165_52, s_165_55, s_165_56, r_165_56, s_165_59, s_165_62, s_165_65, s_165_66, s_165_67, s_165_69, s_165_72, s_165_73, s_165_74, r_165_74, s_165_77, s_165_78, s_165_79, s_165_81, r_165_81, s_165_84, s_165_86, s_165_87, s_165_88, s_165_90, s_165_93, s_165_94, s_165_95, r_165_95, s_165_98, s_165_99, s_165_102, s_165_104, s_165_105, s_165_108, s_165_111, s_165_113, s_165_114, s_165_116, s_165_117, s_165_120, s_165_123, s_165_124, s_165_125, s_165_128, s_165_129, s_165_132, s_165_133, r_165_133, s_165_136, s_165_139, s_165_140, s_165_143, s_165_144, jI_mul, jI_add, jI_tnc, jI_ixT, true_and, and_true, bZ_0, bZ_1, bZ_b, jI_nz, jI_div, jI_rem, jI_mod, Nat.add_zero, bI_if, not_false_iff, if_true, if_false, eq_self, m_fail1]
    exact F1 h1
/-- what the gardens of a gate drank -/
def drkS (g : Gr) (k n : Nat) : Int32 := itN n (fun i v => v + (if g (75 + 9 * i) = jI k then g (75 + 9 * i + 6) else jI 0)) (jI 0)
theorem m_gateWell {k : Nat} (hk : k < 6) (hnd : nd ≤ 12) (h4 : g 4 = jI nd) : Ev 178 (0, [.ref 368, .int (jI k), .null, .null], [], 0, 0, MM Ln (MG σ g) lo db) K ↔ K (.inl (some (.int (bI (g (15 + 10 * k + 2) = drkS g k nd + g (15 + 10 * k + 3)))))) (MM Ln (MG σ g) lo db) := by
  have step : ∀ i, i ≤ nd → (Ev 178 (0, [.ref 368, .int (jI k), .null, .null], [], 0, 0, MM Ln (MG σ g) lo db) K ↔ Ev 178 (4, [.ref 368, .int (jI k), .int (drkS g k i), .int (jI i)], [], 0, 0, MM Ln (MG σ g) lo db) K) := by
    intro i
    induction i with
    | zero => intro _; simp only [s_178_0, s_178_1, s_178_2, s_178_3, s_178_5, s_178_6, s_178_9, s_178_10, s_178_11, s_178_14, s_178_15, s_178_16, s_178_17, s_178_18, r_178_18, s_178_21, s_178_22, s_178_25, s_178_26, s_178_27, s_178_29, r_178_29, s_178_32, s_178_35, s_178_36, s_178_37, s_178_38, s_178_41, s_178_44, s_178_45, s_178_46, s_178_47, r_178_47, s_178_50, s_178_51, s_178_52, s_178_53, s_178_54, r_178_54, s_178_57, s_178_58, s_178_61, s_178_62, s_178_65, s_178_66]; rfl
    | succ i ih =>
      intro hi
      rw [ih (by omega), s_178_4]
      simp (disch := omega) only [s_178_0, s_178_1, s_178_2, s_178_3, s_178_5, s_178_6, s_178_9, s_178_10, s_178_11, s_178_14, s_178_15, s_178_16, s_178_17, s_178_18, r_178_18, s_178_21, s_178_22, s_178_25, s_178_26, s_178_27, s_178_29, r_178_29, s_178_32, s_178_35, s_178_36, s_178_37, s_178_38, s_178_41, s_178_44, s_178_45, s_178_46, s_178_47, r_178_47, s_178_50, s_178_51, s_178_52, s_178_53, s_178_54, r_178_54, s_178_57, s_178_58, s_178_61, s_178_62, s_178_65, s_178_66, jI_mul, jI_add, jI_tnc, jI_ixT, true_and, and_true, bZ_0, bZ_1, bZ_b, jI_nz, jI_div, jI_rem, jI_mod, Nat.add_zero, bI_if, not_false_iff, if_true, if_false, eq_self, MG_g, h4, jI_le, m_ofN]
      rw [if_neg (by omega)]
      have e : drkS g k (i + 1) = drkS g k i + (if g (75 + 9 * i) = jI k then g (75 + 9 * i + 6) else jI 0) := rfl
      rw [e]
      by_cases h : g (75 + 9 * i) = jI k <;> simp only [h, if_true, if_false]
  rw [step nd (Nat.le_refl _), s_178_4]
  simp (disch := omega) only [s_178_0, s_178_1, s_178_2, s_178_3, s_178_5, s_178_6, s_178_9, s_178_10, s_178_11, s_178_14, s_178_15, s_178_16, s_178_17, s_178_18, r_178_18, s_178_21, s_178_22, s_178_25, s_178_26, s_178_27, s_178_29, r_178_29, s_178_32, s_178_35, s_178_36, s_178_37, s_178_38, s_178_41, s_178_44, s_178_45, s_178_46, s_178_47, r_178_47, s_178_50, s_178_51, s_178_52, s_178_53, s_178_54, r_178_54, s_178_57, s_178_58, s_178_61, s_178_62, s_178_65, s_178_66, jI_mul, jI_add, jI_tnc, jI_ixT, true_and, and_true, bZ_0, bZ_1, bZ_b, jI_nz, jI_div, jI_rem, jI_mod, Nat.add_zero, bI_if, not_false_iff, if_true, if_false, eq_self, MG_g, h4, jI_le, Nat.le_refl, m_ofG]
  unfold bI
  by_cases h : g (15 + 10 * k + 2) = drkS g k nd + g (15 + 10 * k + 3) <;> simp only [h, if_true, if_false]
theorem m_isWell (hng : ng ≤ 6) (h3 : g 3 = jI ng) (hnd : nd ≤ 12) (h4 : g 4 = jI nd) (w1 : ∀ k, k < ng → g (15 + 10 * k + 2) = drkS g k nd + g (15 + 10 * k + 3)) (w2 : g 7 = g 8 + sumS g nd 6 + sumS g nd 7 + g 11)
    (H : K (.inl (some (.int (jI 1)))) (MM Ln (MG (u2 σ 368 8 (jI 0)) g) lo db)) : Ev 179 (0, [.ref 368, .null], [], 0, 0, MM Ln (MG σ g) lo db) K := by
  simp only [s_179_0, s_179_1, s_179_2, s_179_5, s_179_6, s_179_8, s_179_9, s_179_12, s_179_13, s_179_14, s_179_17, s_179_18, s_179_19, r_179_19, s_179_22, s_179_25, s_179_26, s_179_27, s_179_30, s_179_33, s_179_34, s_179_37, s_179_39, s_179_40, s_179_41, s_179_44, s_179_46, s_179_47, s_179_48, s_179_50, r_179_50, s_179_53, s_179_54, s_179_55, s_179_57, r_179_57, s_179_60, s_179_61, s_179_62, s_179_65, s_179_67, s_179_68, s_179_69, s_179_72, s_179_73, s_179_76, s_179_77, jI_mul, jI_add, jI_tnc, jI_ixT, true_and, and_true, bZ_0, bZ_1, bZ_b, jI_nz, jI_div, jI_rem, jI_mod, Nat.add_zero, bI_if, not_false_iff, if_true, if_false, eq_self, MG_uo (show 368 ≠ 369 by decide)]
  refine lup0 ng (fun i x => x = (7, [.ref 368, .int (jI i)], [], 0, 0, MM Ln (MG (u2 σ 368 8 (jI 0)) g) lo db)) rfl ?_ ?_
  · rintro i x hi rfl hn
    have hn := hn _ rfl
    have w := w1 i hi
    have n1 : (jI 1 = jI 0) = False := jI_nz (by decide) (by decide)
    rw [s_179_7]
    simp (disch := omega) only [s_179_0, s_179_1, s_179_2, s_179_5, s_179_6, s_179_8, s_179_9, s_179_12, s_179_13, s_179_14, s_179_17, s_179_18, s_179_19, r_179_19, s_179_22, s_179_25, s_179_26, s_179_27, s_179_30, s_179_33, s_179_34, s_179_37, s_179_39, s_179_40, s_179_41, s_179_44, s_179_46, s_179_47, s_179_48, s_179_50, r_179_50, s_179_53, s_179_54, s_179_55, s_179_57, r_179_57, s_179_60, s_179_61, s_179_62, s_179_65, s_179_67, s_179_68, s_179_69, s_179_72, s_179_73, s_179_76, s_179_77, jI_mul, jI_add, jI_tnc, jI_ixT, true_and, and_true, bZ_0, bZ_1, bZ_b, jI_nz, jI_div, jI_rem, jI_mod, Nat.add_zero, bI_if, not_false_iff, if_true, if_false, eq_self, MG_g, h3, jI_le, m_gateWell (show i < 6 by omega) hnd h4]
    rw [if_neg (by omega), if_pos w]
    exact hn
  · rintro x rfl
    rw [s_179_7]
    simp (disch := omega) only [s_179_0, s_179_1, s_179_2, s_179_5, s_179_6, s_179_8, s_179_9, s_179_12, s_179_13, s_179_14, s_179_17, s_179_18, s_179_19, r_179_19, s_179_22, s_179_25, s_179_26, s_179_27, s_179_30, s_179_33, s_179_34, s_179_37, s_179_39, s_179_40, s_179_41, s_179_44, s_179_46, s_179_47, s_179_48, s_179_50, r_179_50, s_179_53, s_179_54, s_179_55, s_179_57, r_179_57, s_179_60, s_179_61, s_179_62, s_179_65, s_179_67, s_179_68, s_179_69, s_179_72, s_179_73, s_179_76, s_179_77, jI_mul, jI_add, jI_tnc, jI_ixT, true_and, and_true, bZ_0, bZ_1, bZ_b, jI_nz, jI_div, jI_rem, jI_mod, Nat.add_zero, bI_if, not_false_iff, if_true, if_false, eq_self, MG_g, h3, jI_le, Nat.le_refl, m_sumOf (show 6 < 9 by decide) hnd h4, m_sumOf (show 7 < 9 by decide) hnd h4]
    rw [if_pos w2]
    exact H
theorem m_share (F : g 7 = jI 0 → K (.inl (some (.float FP.fconst0))) (MM Ln (MG (u2 σ 368 8 (jI 1)) g) lo db)) (hf : ¬ g 7 = jI 0 → FP.fdiv (FP.i2f (g 9)) (FP.i2f (g 7)) &&& 0x7fffffff ≤ 0x7f800000)
    (H : ¬ g 7 = jI 0 → K (.inl (some (.float (FP.fdiv (FP.i2f (g 9)) (FP.i2f (g 7)))))) (MM Ln (MG (u2 σ 368 8 (jI 0)) g) lo db)) : Ev 180 (0, [.ref 368], [], 0, 0, MM Ln (MG σ g) lo db) K := by
  simp (disch := omega) only [s_180_0, s_180_1, s_180_2, s_180_5, s_180_7, s_180_8, s_180_11, s_180_12, s_180_15, s_180_16, r_180_16, s_180_19, s_180_22, s_180_23, s_180_26, s_180_27, s_180_30, s_180_32, s_180_33, s_180_34, s_180_35, s_180_38, s_180_40, s_180_41, s_180_43, jI_mul, jI_add, jI_tnc, jI_ixT, true_and, and_true, bZ_0, bZ_1, bZ_b, jI_nz, jI_div, jI_rem, jI_mod, Nat.add_zero, bI_if, not_false_iff, if_true, if_false, eq_self, MG_g]
  by_cases h : g 7 = jI 0
  · rw [if_pos h]
    simp (disch := omega) only [s_180_0, s_180_1, s_180_2, s_180_5, s_180_7, s_180_8, s_180_11, s_180_12, s_180_15, s_180_16, r_180_16, s_180_19, s_180_22, s_180_23, s_180_26, s_180_27, s_180_30, s_180_32, s_180_33, s_180_34, s_180_35, s_180_38, s_180_40, s_180_41, s_180_43, jI_mul, jI_add, jI_tnc, jI_ixT, true_and, and_true, bZ_0, bZ_1, bZ_b, jI_nz, jI_div, jI_rem, jI_mod, Nat.add_zero, bI_if, not_false_iff, if_true, if_false, eq_self, m_fail1]
    exact F h
  · rw [if_neg h]
    simp (disch := omega) only [s_180_0, s_180_1, s_180_2, s_180_5, s_180_7, s_180_8, s_180_11, s_180_12, s_180_15, s_180_16, r_180_16, s_180_19, s_180_22, s_180_23, s_180_26, s_180_27, s_180_30, s_180_32, s_180_33, s_180_34, s_180_35, s_180_38, s_180_40, s_180_41, s_180_43, jI_mul, jI_add, jI_tnc, jI_ixT, true_and, and_true, bZ_0, bZ_1, bZ_b, jI_nz, jI_div, jI_rem, jI_mod, Nat.add_zero, bI_if, not_false_iff, if_true, if_false, eq_self, m_fail0, MG_g]
    rw [s_180_42 (hf h)]
    simp only [s_180_0, s_180_1, s_180_2, s_180_5, s_180_7, s_180_8, s_180_11, s_180_12, s_180_15, s_180_16, r_180_16, s_180_19, s_180_22, s_180_23, s_180_26, s_180_27, s_180_30, s_180_32, s_180_33, s_180_34, s_180_35, s_180_38, s_180_40, s_180_41, s_180_43, jI_mul, jI_add, jI_tnc, jI_ixT, true_and, and_true, bZ_0, bZ_1, bZ_b, jI_nz, jI_div, jI_rem, jI_mod, Nat.add_zero, bI_if, not_false_iff, if_true, if_false, eq_self]
    exact H h
theorem m_meanThirst (hnd : nd ≤ 12) (h4 : g 4 = jI nd) (F : nd = 0 → K (.inl (some (.double FP.dconst0))) (MM Ln (MG (u2 σ 368 8 (jI 1)) g) lo db)) (hf : 0 < nd → FP.ddiv (FP.i2d (sumS g nd 4)) (FP.i2d (jI nd)) &&& 0x7fffffffffffffff ≤ 0x7ff0000000000000)
    (H : 0 < nd → K (.inl (some (.double (FP.ddiv (FP.i2d (sumS g nd 4)) (FP.i2d (jI nd)))))) (MM Ln (MG (u2 σ 368 8 (jI 0)) g) lo db)) : Ev 181 (0, [.ref 368], [], 0, 0, MM Ln (MG σ g) lo db) K := by
  simp (disch := omega) only [s_181_0, s_181_1, s_181_2, s_181_5, s_181_6, s_181_7, s_181_10, s_181_11, s_181_14, s_181_15, r_181_15, s_181_18, s_181_21, s_181_22, s_181_25, s_181_26, s_181_27, r_181_27, s_181_30, s_181_31, s_181_32, s_181_35, s_181_36, s_181_37, s_181_39, jI_mul, jI_add, jI_tnc, jI_ixT, true_and, and_true, bZ_0, bZ_1, bZ_b, jI_nz, jI_div, jI_rem, jI_mod, Nat.add_zero, bI_if, not_false_iff, if_true, if_false, eq_self, MG_g, h4]
  rcases Nat.eq_zero_or_pos nd with rfl | h
  · simp (disch := omega) only [s_181_0, s_181_1, s_181_2, s_181_5, s_181_6, s_181_7, s_181_10, s_181_11, s_181_14, s_181_15, r_181_15, s_181_18, s_181_21, s_181_22, s_181_25, s_181_26, s_181_27, r_181_27, s_181_30, s_181_31, s_181_32, s_181_35, s_181_36, s_181_37, s_181_39, jI_mul, jI_add, jI_tnc, jI_ixT, true_and, and_true, bZ_0, bZ_1, bZ_b, jI_nz, jI_div, jI_rem, jI_mod, Nat.add_zero, bI_if, not_false_iff, if_true, if_false, eq_self, m_fail1]
    exact F rfl
  · have n0 : (jI nd = jI 0) = False := jI_nz h (by omega)
    simp (disch := omega) only [n0, s_181_0, s_181_1, s_181_2, s_181_5, s_181_6, s_181_7, s_181_10, s_181_11, s_181_14, s_181_15, r_181_15, s_181_18, s_181_21, s_181_22, s_181_25, s_181_26, s_181_27, r_181_27, s_181_30, s_181_31, s_181_32, s_181_35, s_181_36, s_181_37, s_181_39, jI_mul, jI_add, jI_tnc, jI_ixT, true_and, and_true, bZ_0, bZ_1, bZ_b, jI_nz, jI_div, jI_rem, jI_mod, Nat.add_zero, bI_if, not_false_iff, if_true, if_false, eq_self, m_fail0, MG_g, m_sumOf (show 4 < 9 by decide) hnd h4, h4]
    rw [s_181_38 (hf h)]
    simp only [s_181_0, s_181_1, s_181_2, s_181_5, s_181_6, s_181_7, s_181_10, s_181_11, s_181_14, s_181_15, r_181_15, s_181_18, s_181_21, s_181_22, s_181_25, s_181_26, s_181_27, r_181_27, s_181_30, s_181_31, s_181_32, s_181_35, s_181_36, s_181_37, s_181_39, jI_mul, jI_add, jI_tnc, jI_ixT, true_and, and_true, bZ_0, bZ_1, bZ_b, jI_nz, jI_div, jI_rem, jI_mod, Nat.add_zero, bI_if, not_false_iff, if_true, if_false, eq_self]
    exact H h
end
