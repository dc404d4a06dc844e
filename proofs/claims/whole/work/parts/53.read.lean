/-! THE REFERENCE: read, from first to last -/
set_option maxRecDepth 16384
section
variable {K : Ou → Me → Prop} {Ln : Nat} {σ : Nat → Nat → Int32} {g : Gr} {lo : Nat → Nat → Int64} {db : Nat → Nat → UInt64} {μ : Me} {ch : Nat} {oh : Nat → Nat → Bool} {ng nd nc h : Nat} {c : Nat → Nat} {len : Nat}
/-- the reference's memory behind a call: what is told anew, what stays -/
def RdF (σ σ' : Nat → Nat → Int32) (ch code why det len err : Int32) : Prop := (∀ a, a ≠ 368 → a ≠ 369 → a ≠ 370 → a ≠ 372 → a ≠ 373 → a ≠ 375 → a ≠ 376 → σ' a = σ a) ∧ σ' 368 5 = σ 368 5 ∧ σ' 368 6 = ch ∧ σ' 368 7 = jI 0 ∧ σ' 368 8 = code ∧ σ' 368 10 = why ∧ σ' 368 11 = det ∧ σ' 368 13 = len ∧ σ' 368 14 = err
theorem KPr_cg {row : Nat → Int32} {q q' : Gr} (h : ∀ k, k < 199 → q' k = q k) : KPr row q' ch = KPr row q ch := by
  funext k
  unfold KPr
  by_cases h8 : ch = 8
  · rw [if_pos h8, if_pos h8]
    by_cases h1 : k < 1393
    · rw [if_pos h1, if_pos h1]
    · rw [if_neg h1, if_neg h1]
      by_cases h2 : k < 1592
      · rw [if_pos h2, if_pos h2, h _ (by omega)]
      · rw [if_neg h2, if_neg h2]
  · rw [if_neg h8, if_neg h8]
    by_cases h2 : 199 * ch ≤ k ∧ k < 199 * ch + 199
    · rw [if_pos h2, if_pos h2, h _ (by omega)]
    · rw [if_neg h2, if_neg h2]
theorem cpy_back {gq : Gr} (h1 : ∀ k, k < 199 → σ 372 k = g k) (h2 : ∀ k, 199 ≤ k → gq k = g k) : cpy (MG σ gq) 372 0 369 0 199 = MG σ g := by
  funext a k
  unfold cpy MG
  by_cases ha : a = 369
  · subst ha
    by_cases hk : k < 199
    · rw [if_pos (by omega), if_pos rfl, if_neg (by decide), show 0 + (k - 0) = k by omega]; exact h1 k hk
    · rw [if_neg (by omega), if_pos rfl, if_pos rfl]; exact h2 k (by omega)
  · rw [if_neg (fun e => ha e.1), if_neg ha, if_neg ha]
theorem m_read (hB : Bas g oh ng nd nc h) (hh : h < 900000000) (hI : INP σ c len) (hw : σ 368 7 = jI 0) (hc : σ 368 6 = jI ch) (hch : ch ≤ 8)
    (F : ∀ e σ', TXT c len = .inl e → RdF σ σ' (jI ch) (jI 1) (σ 368 10) (σ 368 11) (jI 0) (jI e) → σ' 370 = σ 370 → K (.inl (some (.int (jI 0)))) (MM Ln (MG σ' g) lo db))
    (W : ∀ l v σ', TXT c len = .inr l → runX ng nd l (g, oh, nc, h) = .inr none → RdF σ σ' (jI ch) (jI 1) (σ 368 10) (σ 368 11) (jI 0) jm1 → σ' 370 = σ 370 → K (.inl (some (.int v))) (MM Ln (MG σ' g) lo db))
    (R : ∀ l v x d σ', TXT c len = .inr l → runX ng nd l (g, oh, nc, h) = .inr (some (x, d)) → RdF σ σ' (jI ch) (jI 2) (jI x) d (jI 0) jm1 → σ' 370 = σ 370 → K (.inl (some (.int v))) (MM Ln (MG σ' g) lo db))
    (D : ∀ l s σ', TXT c len = .inr l → l.length ≤ 20 → runX ng nd l (g, oh, nc, h) = .inl s → RdF σ σ' (jI (min (ch + 1) 8)) (jI 0) (σ 368 10) (σ 368 11) (jI 0) jm1 → σ' 370 = KPr (σ 370) g ch → K (.inl (some (.int (jI l.length)))) (MM Ln (MG σ' s.1) lo db)) :
    Ev 173 (0, [.ref 368, .null, .null, .null], [], 0, 0, MM Ln (MG σ g) lo db) K := by
  have hI' : INP (MG σ g) c len := hI
  have n1 : (jI 1 = jI 0) = False := jI_nz (by decide) (by decide)
  have tmo : ∀ {a n td b k}, b ≠ 376 → ¬ (b = 368 ∧ k = 17) → ¬ (b = 368 ∧ k = 19) → TM σ a n td b k = σ b k := fun {a n td b k} h1 h2 h3 => TM_o h1 h2 h3
  simp (disch := omega) only [s_173_0, s_173_1, r_173_1, s_173_5, s_173_6, s_173_7, s_173_10, s_173_11, s_173_14, s_173_15, s_173_18, s_173_21, s_173_22, s_173_23, s_173_26, s_173_27, s_173_28, s_173_31, s_173_32, s_173_35, s_173_36, r_173_36, s_173_39, s_173_42, s_173_43, s_173_44, s_173_45, s_173_48, s_173_49, s_173_50, s_173_53, s_173_54, r_173_54, s_173_57, s_173_58, s_173_59, s_173_62, s_173_63, s_173_64, s_173_67, s_173_68, s_173_69, s_173_70, s_173_72, s_173_73, s_173_76, s_173_79, s_173_80, s_173_83, s_173_86, s_173_87, s_173_88, s_173_89, s_173_90, r_173_90, s_173_93, s_173_94, s_173_97, s_173_100, s_173_101, s_173_102, s_173_105, s_173_106, s_173_109, s_173_112, s_173_113, s_173_116, s_173_117, s_173_118, s_173_121, s_173_122, r_173_122, s_173_125, s_173_126, s_173_127, s_173_130, s_173_133, s_173_134, s_173_137, s_173_138, s_173_141, s_173_142, s_173_145, s_173_146, s_173_149, s_173_150, s_173_151, s_173_152, s_173_153, s_173_156, r_173_156, s_173_159, s_173_160, s_173_163, jI_mul, jI_add, jI_tnc, jI_ixT, true_and, and_true, bZ_0, bZ_1, bZ_b, jI_nz, jI_div, jI_rem, jI_mod, Nat.add_zero, bI_if, not_false_iff, if_true, if_false, eq_self]
  refine m_isText hI' (fun e n' td' he => ?_) (fun l td' he hl20 hT => ?_)
  · rw [TM_MG]
    simp (disch := omega) only [s_173_0, s_173_1, r_173_1, s_173_4, s_173_5, s_173_6, s_173_7, s_173_10, s_173_11, s_173_14, s_173_15, s_173_18, s_173_21, s_173_22, s_173_23, s_173_26, s_173_27, s_173_28, s_173_31, s_173_32, s_173_35, s_173_36, r_173_36, s_173_39, s_173_42, s_173_43, s_173_44, s_173_45, s_173_48, s_173_49, s_173_50, s_173_53, s_173_54, r_173_54, s_173_57, s_173_58, s_173_59, s_173_62, s_173_63, s_173_64, s_173_67, s_173_68, s_173_69, s_173_70, s_173_72, s_173_73, s_173_76, s_173_79, s_173_80, s_173_83, s_173_86, s_173_87, s_173_88, s_173_89, s_173_90, r_173_90, s_173_93, s_173_94, s_173_97, s_173_100, s_173_101, s_173_102, s_173_105, s_173_106, s_173_109, s_173_112, s_173_113, s_173_116, s_173_117, s_173_118, s_173_121, s_173_122, r_173_122, s_173_125, s_173_126, s_173_127, s_173_130, s_173_133, s_173_134, s_173_137, s_173_138, s_173_141, s_173_142, s_173_145, s_173_146, s_173_149, s_173_150, s_173_151, s_173_152, s_173_153, s_173_156, r_173_156, s_173_159, s_173_160, s_173_163, jI_mul, jI_add, jI_tnc, jI_ixT, true_and, and_true, bZ_0, bZ_1, bZ_b, jI_nz, jI_div, jI_rem, jI_mod, Nat.add_zero, bI_if, not_false_iff, if_true, if_false, eq_self, MG_o, MG_uo, TM_17, m_fail1]
    refine F e _ he ⟨fun a h1 h2 h3 h4 h5 h6 h7 => ?_, ?_, ?_, ?_, u2_at, ?_, ?_, ?_, ?_⟩ ?_
    · funext k
      rw [u2_na h1, u2_na h1, u2_na h1]
      exact tmo h7 (fun e => h1 e.1) (fun e => h1 e.1)
    · rw [u2_nk (by decide), u2_nk (by decide), u2_nk (by decide)]; exact tmo (by decide) (by decide) (by decide)
    · rw [u2_nk (by decide), u2_nk (by decide), u2_nk (by decide), ← hc]; exact tmo (by decide) (by decide) (by decide)
    · rw [u2_nk (by decide), u2_nk (by decide), u2_nk (by decide), ← hw]; exact tmo (by decide) (by decide) (by decide)
    · rw [u2_nk (by decide), u2_nk (by decide), u2_nk (by decide)]; exact tmo (by decide) (by decide) (by decide)
    · rw [u2_nk (by decide), u2_nk (by decide), u2_nk (by decide)]; exact tmo (by decide) (by decide) (by decide)
    · rw [u2_nk (by decide), u2_at]
    · rw [u2_nk (by decide), u2_nk (by decide), u2_at]
    · funext k
      rw [u2_na (by decide), u2_na (by decide), u2_na (by decide)]
      exact tmo (by decide) (fun e => absurd e.1 (by decide)) (fun e => absurd e.1 (by decide))
  · rw [TM_MG]
    have c1 : ∀ τ : Nat → Nat → Int32, cpy (MG τ g) 369 0 372 0 199 = MG (cpy (MG τ g) 369 0 372 0 199) g := fun τ => by
      have := MG_self (cpy (MG τ g) 369 0 372 0 199)
      rw [cpy_o (by decide), MG_gf] at this
      exact this.symm
    simp (disch := omega) only [s_173_0, s_173_1, r_173_1, s_173_4, s_173_5, s_173_6, s_173_7, s_173_10, s_173_11, s_173_14, s_173_15, s_173_18, s_173_21, s_173_22, s_173_23, s_173_26, s_173_27, s_173_28, s_173_31, s_173_32, s_173_35, s_173_36, r_173_36, s_173_39, s_173_42, s_173_43, s_173_44, s_173_45, s_173_48, s_173_49, s_173_50, s_173_53, s_173_54, r_173_54, s_173_57, s_173_58, s_173_59, s_173_62, s_173_63, s_173_64, s_173_67, s_173_68, s_173_69, s_173_70, s_173_72, s_173_73, s_173_76, s_173_79, s_173_80, s_173_83, s_173_86, s_173_87, s_173_88, s_173_89, s_173_90, r_173_90, s_173_93, s_173_94, s_173_97, s_173_100, s_173_101, s_173_102, s_173_105, s_173_106, s_173_109, s_173_112, s_173_113, s_173_116, s_173_117, s_173_118, s_173_121, s_173_122, r_173_122, s_173_125, s_173_126, s_173_127, s_173_130, s_173_133, s_173_134, s_173_137, s_173_138, s_173_141, s_173_142, s_173_145, s_173_146, s_173_149, s_173_150, s_173_151, s_173_152, s_173_153, s_173_156, r_173_156, s_173_159, s_173_160, s_173_163, jI_mul, jI_add, jI_tnc, jI_ixT, true_and, and_true, bZ_0, bZ_1, bZ_b, jI_nz, jI_div, jI_rem, jI_mod, Nat.add_zero, bI_if, not_false_iff, if_true, if_false, eq_self, MG_o, MG_uo, n1, m_fail0, m_copies KD_M0 KD_M3 (by decide : 369 ≠ 372) (by decide : 0 + 199 ≤ 199) (by decide : 0 + 199 ≤ 199) (by decide) (by decide)]
    have hτ : ∃ τ, τ = u2 (u2 (u2 (TM σ len l.length td') 368 14 jm1) 368 13 (jI 0)) 368 8 (jI 0) := ⟨_, rfl⟩
    obtain ⟨τ, hτ⟩ := hτ
    rw [← hτ, c1]
    simp (disch := omega) only [s_173_0, s_173_1, r_173_1, s_173_4, s_173_5, s_173_6, s_173_7, s_173_10, s_173_11, s_173_14, s_173_15, s_173_18, s_173_21, s_173_22, s_173_23, s_173_26, s_173_27, s_173_28, s_173_31, s_173_32, s_173_35, s_173_36, r_173_36, s_173_39, s_173_42, s_173_43, s_173_44, s_173_45, s_173_48, s_173_49, s_173_50, s_173_53, s_173_54, r_173_54, s_173_57, s_173_58, s_173_59, s_173_62, s_173_63, s_173_64, s_173_67, s_173_68, s_173_69, s_173_70, s_173_72, s_173_73, s_173_76, s_173_79, s_173_80, s_173_83, s_173_86, s_173_87, s_173_88, s_173_89, s_173_90, r_173_90, s_173_93, s_173_94, s_173_97, s_173_100, s_173_101, s_173_102, s_173_105, s_173_106, s_173_109, s_173_112, s_173_113, s_173_116, s_173_117, s_173_118, s_173_121, s_173_122, r_173_122, s_173_125, s_173_126, s_173_127, s_173_130, s_173_133, s_173_134, s_173_137, s_173_138, s_173_141, s_173_142, s_173_145, s_173_146, s_173_149, s_173_150, s_173_151, s_173_152, s_173_153, s_173_156, r_173_156, s_173_159, s_173_160, s_173_163, jI_mul, jI_add, jI_tnc, jI_ixT, true_and, and_true, bZ_0, bZ_1, bZ_b, jI_nz, jI_div, jI_rem, jI_mod, Nat.add_zero, bI_if, not_false_iff, if_true, if_false, eq_self, MG_uo]
    have hσb : ∃ σb, σb = u2 (u2 (cpy (MG τ g) 369 0 372 0 199) 368 7 (jI 1)) 368 9 (jI 0) := ⟨_, rfl⟩
    obtain ⟨σb, hσb⟩ := hσb
    rw [← hσb]
    have t0 : ∀ a k, a ≠ 368 → a ≠ 376 → τ a k = σ a k := fun a k h1 h2 => by
      rw [hτ, u2_na h1, u2_na h1, u2_na h1]; exact tmo h2 (fun e => h1 e.1) (fun e => h1 e.1)
    have t1 : ∀ j, j ≠ 8 → j ≠ 13 → j ≠ 14 → j ≠ 17 → j ≠ 19 → τ 368 j = σ 368 j := fun j h1 h2 h3 h4 h5 => by
      rw [hτ, u2_nk h1, u2_nk h2, u2_nk h3]; exact tmo (by decide) (fun e => h4 e.2) (fun e => h5 e.2)
    have b0 : ∀ a, a ≠ 368 → a ≠ 369 → a ≠ 372 → a ≠ 376 → σb a = σ a := fun a h1 h2 h3 h4 => by
      funext k
      rw [hσb, u2_na h1, u2_na h1, cpy_o h3, MG_o h2]; exact t0 a k h1 h4
    have b1 : ∀ j, j ≠ 7 → j ≠ 9 → σb 368 j = τ 368 j := fun j h1 h2 => by
      rw [hσb, u2_nk h2, u2_nk h1, cpy_o (by decide)]; rfl
    have b9 : σb 368 9 = jI 0 := by rw [hσb, u2_at]
    have b7 : σb 368 7 = jI 1 := by rw [hσb, u2_nk (by decide), u2_at]
    have b6 : σb 368 6 = jI ch := (b1 6 (by decide) (by decide)).trans ((t1 6 (by decide) (by decide) (by decide) (by decide) (by decide)).trans hc)
    have b8 : σb 368 8 = jI 0 := (b1 8 (by decide) (by decide)).trans (by rw [hτ, u2_at])
    have b19 : σb 368 19 = jI l.length := (b1 19 (by decide) (by decide)).trans (by rw [hτ, u2_nk (by decide), u2_nk (by decide), u2_nk (by decide)]; exact TM_19)
    have b13 : σb 368 13 = jI 0 := (b1 13 (by decide) (by decide)).trans (by rw [hτ, u2_nk (by decide), u2_at])
    have b14 : σb 368 14 = jm1 := (b1 14 (by decide) (by decide)).trans (by rw [hτ, u2_nk (by decide), u2_nk (by decide), u2_at])
    have b5 : σb 368 5 = σ 368 5 := (b1 5 (by decide) (by decide)).trans (t1 5 (by decide) (by decide) (by decide) (by decide) (by decide))
    have b10 : σb 368 10 = σ 368 10 := (b1 10 (by decide) (by decide)).trans (t1 10 (by decide) (by decide) (by decide) (by decide) (by decide))
    have b11 : σb 368 11 = σ 368 11 := (b1 11 (by decide) (by decide)).trans (t1 11 (by decide) (by decide) (by decide) (by decide) (by decide))
    have b376 : σb 376 = td' := by
      funext k
      rw [hσb, u2_na (by decide), u2_na (by decide), cpy_o (by decide), MG_o (by decide), hτ, u2_na (by decide), u2_na (by decide), u2_na (by decide)]
      exact TM_td
    have b372 : ∀ k, k < 199 → σb 372 k = g k := fun k hk => by
      rw [hσb, u2_na (by decide), u2_na (by decide)]
      unfold cpy
      rw [if_pos (by omega), MG_g]
      congr 1
      omega
    clear hσb hτ b1 t0 t1
    have hrB : ∀ r, r ∈ l → RcB r := txP_B 21 0 l he
    refine m_run (ng := ng) (nd := nd) b7 b6 hch hl20 b19 l 0 (g, oh, nc, h) σb _ (Nat.zero_add _) (fun i r hi => ⟨by rw [b376, Nat.zero_add]; exact hT i r hi, hrB r (List.mem_of_getElem? hi)⟩) hB (by dsimp only; omega) (FQ.refl b8) (fun _ _ => rfl) (fun s' v σ'' hx hB' f hi => ?_) (fun w v v' gq σ'' hx w0 w1 f1 f2 f3 hi => ?_) (fun w x d v v' gq σ'' hx w0 w1 f1 f2 f3 f4 f5 f6 hi => ?_)
    · have e8 : u2 σ'' 368 7 (jI 0) 368 8 = jI 0 := (u2_nk (by decide)).trans f.2.2
      have e6 : MG (u2 σ'' 368 7 (jI 0)) s'.1 368 6 = jI ch := (MG_o (by decide)).trans ((u2_nk (by decide)).trans ((f.2.1 6 (by decide) (by decide)).trans b6))
      have e7 : MG (u2 σ'' 368 7 (jI 0)) s'.1 368 7 = jI 0 := (MG_o (by decide)).trans u2_at
      have e19 : kpW (MG (u2 σ'' 368 7 (jI 0)) s'.1) 372 ch 368 19 = jI l.length := (kpW_f (by decide)).trans ((MG_o (by decide)).trans ((u2_nk (by decide)).trans ((f.2.1 19 (by decide) (by decide)).trans b19)))
      have eM : kpW (MG (u2 σ'' 368 7 (jI 0)) s'.1) 372 ch = MG (kpW (MG (u2 σ'' 368 7 (jI 0)) s'.1) 372 ch) s'.1 := by
        have := MG_self (kpW (MG (u2 σ'' 368 7 (jI 0)) s'.1) 372 ch)
        rw [kpW_369, MG_gf] at this
        exact this.symm
      simp (disch := omega) only [s_173_0, s_173_1, r_173_1, s_173_4, s_173_5, s_173_6, s_173_7, s_173_10, s_173_11, s_173_14, s_173_15, s_173_18, s_173_21, s_173_22, s_173_23, s_173_26, s_173_27, s_173_28, s_173_31, s_173_32, s_173_35, s_173_36, r_173_36, s_173_39, s_173_42, s_173_43, s_173_44, s_173_45, s_173_48, s_173_49, s_173_50, s_173_53, s_173_54, r_173_54, s_173_57, s_173_58, s_173_59, s_173_62, s_173_63, s_173_64, s_173_67, s_173_68, s_173_69, s_173_70, s_173_72, s_173_73, s_173_76, s_173_79, s_173_80, s_173_83, s_173_86, s_173_87, s_173_88, s_173_89, s_173_90, r_173_90, s_173_93, s_173_94, s_173_97, s_173_100, s_173_101, s_173_102, s_173_105, s_173_106, s_173_109, s_173_112, s_173_113, s_173_116, s_173_117, s_173_118, s_173_121, s_173_122, r_173_122, s_173_125, s_173_126, s_173_127, s_173_130, s_173_133, s_173_134, s_173_137, s_173_138, s_173_141, s_173_142, s_173_145, s_173_146, s_173_149, s_173_150, s_173_151, s_173_152, s_173_153, s_173_156, r_173_156, s_173_159, s_173_160, s_173_163, jI_mul, jI_add, jI_tnc, jI_ixT, true_and, and_true, bZ_0, bZ_1, bZ_b, jI_nz, jI_div, jI_rem, jI_mod, Nat.add_zero, bI_if, not_false_iff, if_true, if_false, eq_self, MG_o, MG_uo, e8, Int32.le_refl, if_true, m_keeps KD_M3 (by decide : 372 ≠ 370) (by decide : 372 ≠ 368) e7 e6 hch, e19]
      have g0 : ∀ j, j ≠ 6 → j ≠ 7 → j ≠ 16 → j ≠ 8 → kpW (MG (u2 σ'' 368 7 (jI 0)) s'.1) 372 ch 368 j = σb 368 j := fun j h1 h2 h3 h4 => (kpW_f h1).trans ((u2_nk h2).trans (f.2.1 j h3 h4))
      rw [eM]
      refine D l s' _ he hl20 hx ⟨fun a h1 h2 h3 h4 h5 h6 h7 => ?_, ?_, kpW_6 hch, ?_, ?_, ?_, ?_, ?_, ?_⟩ ?_
      · rw [kpW_o h3 h1, MG_of h2]
        funext k
        rw [u2_na h1, f.1 a h6 h1, b0 a h1 h2 h4 h7]
      · exact (g0 5 (by decide) (by decide) (by decide) (by decide)).trans b5
      · exact (kpW_f (by decide)).trans ((MG_o (by decide)).trans u2_at)
      · exact (kpW_f (by decide)).trans ((MG_o (by decide)).trans e8)
      · exact (g0 10 (by decide) (by decide) (by decide) (by decide)).trans b10
      · exact (g0 11 (by decide) (by decide) (by decide) (by decide)).trans b11
      · exact (g0 13 (by decide) (by decide) (by decide) (by decide)).trans b13
      · exact (g0 14 (by decide) (by decide) (by decide) (by decide)).trans b14
      · rw [kpW_370 (by decide) (by decide) hch, MG_of (by decide), MG_of (by decide)]
        have r1 : u2 σ'' 368 7 (jI 0) 370 = σ 370 := by
          funext k
          rw [u2_na (by decide), f.1 370 (by decide) (by decide), b0 370 (by decide) (by decide) (by decide) (by decide)]
        rw [r1]
        refine KPr_cg (fun k hk => ?_)
        rw [u2_na (by decide), f.1 372 (by decide) (by decide)]
        exact b372 k hk
    · have e8 : u2 σ'' 368 7 (jI 0) 368 8 = jI w := (u2_nk (by decide)).trans f3
      have e9 : u2 σ'' 368 7 (jI 0) 368 9 = jI 0 := (u2_nk (by decide)).trans ((f2 9 (by decide) (by decide)).trans b9)
      have wz : (jI w ≤ jI 0) = False := eq_false (by rw [jI_le (by omega) (by omega)]; omega)
      have r372 : ∀ k, k < 199 → u2 σ'' 368 7 (jI 0) 372 k = g k := fun k hk => by
        rw [u2_na (by decide), f1 372 (by decide) (by decide)]; exact b372 k hk
      simp (disch := omega) only [s_173_0, s_173_1, r_173_1, s_173_4, s_173_5, s_173_6, s_173_7, s_173_10, s_173_11, s_173_14, s_173_15, s_173_18, s_173_21, s_173_22, s_173_23, s_173_26, s_173_27, s_173_28, s_173_31, s_173_32, s_173_35, s_173_36, r_173_36, s_173_39, s_173_42, s_173_43, s_173_44, s_173_45, s_173_48, s_173_49, s_173_50, s_173_53, s_173_54, r_173_54, s_173_57, s_173_58, s_173_59, s_173_62, s_173_63, s_173_64, s_173_67, s_173_68, s_173_69, s_173_70, s_173_72, s_173_73, s_173_76, s_173_79, s_173_80, s_173_83, s_173_86, s_173_87, s_173_88, s_173_89, s_173_90, r_173_90, s_173_93, s_173_94, s_173_97, s_173_100, s_173_101, s_173_102, s_173_105, s_173_106, s_173_109, s_173_112, s_173_113, s_173_116, s_173_117, s_173_118, s_173_121, s_173_122, r_173_122, s_173_125, s_173_126, s_173_127, s_173_130, s_173_133, s_173_134, s_173_137, s_173_138, s_173_141, s_173_145, s_173_146, s_173_149, s_173_150, s_173_151, s_173_152, s_173_153, s_173_156, r_173_156, s_173_159, s_173_160, s_173_163, jI_mul, jI_add, jI_tnc, jI_ixT, true_and, and_true, bZ_0, bZ_1, bZ_b, jI_nz, jI_div, jI_rem, jI_mod, Nat.add_zero, bI_if, not_false_iff, if_true, if_false, eq_self, MG_o, MG_uo, e8, wz, if_false, m_copies KD_M3 KD_M0 (by decide : 372 ≠ 369) (by decide : 0 + 199 ≤ 199) (by decide : 0 + 199 ≤ 199) (by decide) (by decide), cpy_back r372 hi, e9, if_true]
      have fin : ∀ v'', K (.inl (some (.int v''))) (MM Ln (MG (u2 (u2 σ'' 368 7 (jI 0)) 368 8 (jI 1)) g) lo db) := by
        intro v''
        have g0 : ∀ j, j ≠ 7 → j ≠ 16 → j ≠ 8 → u2 (u2 σ'' 368 7 (jI 0)) 368 8 (jI 1) 368 j = σb 368 j := fun j h2 h3 h4 => (u2_nk h4).trans ((u2_nk h2).trans (f2 j h3 h4))
        refine W l v'' _ he hx ⟨fun a h1 h2 h3 h4 h5 h6 h7 => ?_, ?_, ?_, ?_, u2_at, ?_, ?_, ?_, ?_⟩ ?_
        · funext k
          rw [u2_na h1, u2_na h1, f1 a h6 h1, b0 a h1 h2 h4 h7]
        · exact (g0 5 (by decide) (by decide) (by decide)).trans b5
        · exact (g0 6 (by decide) (by decide) (by decide)).trans b6
        · exact (u2_nk (by decide)).trans u2_at
        · exact (g0 10 (by decide) (by decide) (by decide)).trans b10
        · exact (g0 11 (by decide) (by decide) (by decide)).trans b11
        · exact (g0 13 (by decide) (by decide) (by decide)).trans b13
        · exact (g0 14 (by decide) (by decide) (by decide)).trans b14
        · funext k
          rw [u2_na (by decide), u2_na (by decide), f1 370 (by decide) (by decide), b0 370 (by decide) (by decide) (by decide) (by decide)]
      simp (disch := omega) only [s_173_0, s_173_1, r_173_1, s_173_4, s_173_5, s_173_6, s_173_7, s_173_10, s_173_11, s_173_14, s_173_15, s_173_18, s_173_21, s_173_22, s_173_23, s_173_26, s_173_27, s_173_28, s_173_31, s_173_32, s_173_35, s_173_36, r_173_36, s_173_39, s_173_42, s_173_43, s_173_44, s_173_45, s_173_48, s_173_49, s_173_50, s_173_53, s_173_54, r_173_54, s_173_57, s_173_58, s_173_59, s_173_62, s_173_63, s_173_64, s_173_67, s_173_68, s_173_69, s_173_70, s_173_72, s_173_73, s_173_76, s_173_79, s_173_80, s_173_83, s_173_86, s_173_87, s_173_88, s_173_89, s_173_90, r_173_90, s_173_93, s_173_94, s_173_97, s_173_100, s_173_101, s_173_102, s_173_105, s_173_106, s_173_109, s_173_112, s_173_113, s_173_116, s_173_117, s_173_118, s_173_121, s_173_122, r_173_122, s_173_125, s_173_126, s_173_127, s_173_130, s_173_133, s_173_134, s_173_137, s_173_138, s_173_141, s_173_142, s_173_145, s_173_146, s_173_149, s_173_150, s_173_151, s_173_152, s_173_153, s_173_156, r_173_156, s_173_159, s_173_160, s_173_163, jI_mul, jI_add, jI_tnc, jI_ixT, true_and, and_true, bZ_0, bZ_1, bZ_b, jI_nz, jI_div, jI_rem, jI_mod, Nat.add_zero, bI_if, not_false_iff, if_true, if_false, eq_self]
      by_cases hv : jI 0 ≤ v
      · simp only [if_pos hv]; exact fin _
      · simp only [if_neg hv]; exact fin _
    · have e8 : u2 σ'' 368 7 (jI 0) 368 8 = jI w := (u2_nk (by decide)).trans f3
      have e9 : u2 σ'' 368 7 (jI 0) 368 9 = jI 1 := (u2_nk (by decide)).trans f4
      have wz : (jI w ≤ jI 0) = False := eq_false (by rw [jI_le (by omega) (by omega)]; omega)
      have r372 : ∀ k, k < 199 → u2 σ'' 368 7 (jI 0) 372 k = g k := fun k hk => by
        rw [u2_na (by decide), f1 372 (by decide) (by decide)]; exact b372 k hk
      simp (disch := omega) only [s_173_0, s_173_1, r_173_1, s_173_4, s_173_5, s_173_6, s_173_7, s_173_10, s_173_11, s_173_14, s_173_15, s_173_18, s_173_21, s_173_22, s_173_23, s_173_26, s_173_27, s_173_28, s_173_31, s_173_32, s_173_35, s_173_36, r_173_36, s_173_39, s_173_42, s_173_43, s_173_44, s_173_45, s_173_48, s_173_49, s_173_50, s_173_53, s_173_54, r_173_54, s_173_57, s_173_58, s_173_59, s_173_62, s_173_63, s_173_64, s_173_67, s_173_68, s_173_69, s_173_70, s_173_72, s_173_73, s_173_76, s_173_79, s_173_80, s_173_83, s_173_86, s_173_87, s_173_88, s_173_89, s_173_90, r_173_90, s_173_93, s_173_94, s_173_97, s_173_100, s_173_101, s_173_102, s_173_105, s_173_106, s_173_109, s_173_112, s_173_113, s_173_116, s_173_117, s_173_118, s_173_121, s_173_122, r_173_122, s_173_125, s_173_126, s_173_127, s_173_130, s_173_133, s_173_134, s_173_137, s_173_138, s_173_141, s_173_145, s_173_146, s_173_149, s_173_150, s_173_151, s_173_152, s_173_153, s_173_156, r_173_156, s_173_159, s_173_160, s_173_163, jI_mul, jI_add, jI_tnc, jI_ixT, true_and, and_true, bZ_0, bZ_1, bZ_b, jI_nz, jI_div, jI_rem, jI_mod, Nat.add_zero, bI_if, not_false_iff, if_true, if_false, eq_self, MG_o, MG_uo, e8, wz, if_false, m_copies KD_M3 KD_M0 (by decide : 372 ≠ 369) (by decide : 0 + 199 ≤ 199) (by decide : 0 + 199 ≤ 199) (by decide) (by decide), cpy_back r372 hi, e9, n1]
      have fin : ∀ v'', K (.inl (some (.int v''))) (MM Ln (MG (u2 (u2 σ'' 368 7 (jI 0)) 368 8 (jI 2)) g) lo db) := by
        intro v''
        have g0 : ∀ j, j ≠ 7 → j ≠ 16 → j ≠ 8 → j ≠ 9 → j ≠ 10 → j ≠ 11 → u2 (u2 σ'' 368 7 (jI 0)) 368 8 (jI 2) 368 j = σb 368 j := fun j h2 h3 h4 h5 h6 h7 => (u2_nk h4).trans ((u2_nk h2).trans (f2 j h3 h4 h5 h6 h7))
        refine R l v'' x d _ he hx ⟨fun a h1 h2 h3 h4 h5 h6 h7 => ?_, ?_, ?_, ?_, u2_at, ?_, ?_, ?_, ?_⟩ ?_
        · funext k
          rw [u2_na h1, u2_na h1, f1 a h6 h1, b0 a h1 h2 h4 h7]
        · exact (g0 5 (by decide) (by decide) (by decide) (by decide) (by decide) (by decide)).trans b5
        · exact (g0 6 (by decide) (by decide) (by decide) (by decide) (by decide) (by decide)).trans b6
        · exact (u2_nk (by decide)).trans u2_at
        · exact (u2_nk (by decide)).trans ((u2_nk (by decide)).trans f5)
        · exact (u2_nk (by decide)).trans ((u2_nk (by decide)).trans f6)
        · exact (g0 13 (by decide) (by decide) (by decide) (by decide) (by decide) (by decide)).trans b13
        · exact (g0 14 (by decide) (by decide) (by decide) (by decide) (by decide) (by decide)).trans b14
        · funext k
          rw [u2_na (by decide), u2_na (by decide), f1 370 (by decide) (by decide), b0 370 (by decide) (by decide) (by decide) (by decide)]
      simp (disch := omega) only [s_173_0, s_173_1, r_173_1, s_173_4, s_173_5, s_173_6, s_173_7, s_173_10, s_173_11, s_173_14, s_173_15, s_173_18, s_173_21, s_173_22, s_173_23, s_173_26, s_173_27, s_173_28, s_173_31, s_173_32, s_173_35, s_173_36, r_173_36, s_173_39, s_173_42, s_173_43, s_173_44, s_173_45, s_173_48, s_173_49, s_173_50, s_173_53, s_173_54, r_173_54, s_173_57, s_173_58, s_173_59, s_173_62, s_173_63, s_173_64, s_173_67, s_173_68, s_173_69, s_173_70, s_173_72, s_173_73, s_173_76, s_173_79, s_173_80, s_173_83, s_173_86, s_173_87, s_173_88, s_173_89, s_173_90, r_173_90, s_173_93, s_173_94, s_173_97, s_173_100, s_173_101, s_173_102, s_173_105, s_173_106, s_173_109, s_173_112, s_173_113, s_173_116, s_173_117, s_173_118, s_173_121, s_173_122, r_173_122, s_173_125, s_173_126, s_173_127, s_173_130, s_173_133, s_173_134, s_173_137, s_173_138, s_173_141, s_173_142, s_173_145, s_173_146, s_173_149, s_173_150, s_173_151, s_173_152, s_173_153, s_173_156, r_173_156, s_173_159, s_173_160, s_173_163, jI_mul, jI_add, jI_tnc, jI_ixT, true_and, and_true, bZ_0, bZ_1, bZ_b, jI_nz, jI_div, jI_rem, jI_mod, Nat.add_zero, bI_if, not_false_iff, if_true, if_false, eq_self]
      by_cases hv : jI 0 ≤ v
      · simp only [if_pos hv]; exact fin _
      · simp only [if_neg hv]; exact fin _
end
