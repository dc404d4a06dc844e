/-! THE CLASS: read, as the law calls it -/
set_option maxRecDepth 16384
section
variable {K : Ou → Me → Prop} {Ln : Nat} {σ σ' : Nat → Nat → Int32} {g : Gr} {lo : Nat → Nat → Int64} {db : Nat → Nat → UInt64} {μ : Me} {oh : Nat → Nat → Bool} {o ng nd nc h i : Nat} {H : List Sy} {sv : Option Sy} {y0 d0 : Int32} {c : Nat → Nat} {len : Nat} {er : Int32}
theorem CI_txt {s : Sy} {er' : Int32} (hG : Gd (s, H, sv, y0, d0, c, len, er)) (hC : CI σ (s, H, sv, y0, d0, c, len, er)) (e : ∀ a, a ≠ 0 → a ≠ 344 → ¬ (347 ≤ a ∧ a < 367) → σ' a = σ a) (e0 : σ' 0 3 = σ 0 3) (e7 : σ' 0 7 = er') (e2 : σ' 344 2 = jI 0) : CI σ' (s, H, sv, y0, d0, c, 0, er') := by
  obtain ⟨c1, ⟨p, p1, p2, p3, p4, p5⟩, c3, c4, c5, c6, c7, c8⟩ := hC
  obtain ⟨d1, d2, d3⟩ := hG
  refine ⟨RDs_cg d1 c1 (fun a h1 h2 => e a (by omega) (by omega) (by omega)), ⟨p, p1, p2, ?_, ?_, fun j t hj => ?_⟩, ?_, fun t ht => RDs_cg (d3 t ht) (c4 t ht) (fun a h1 h2 => e a (by omega) (by omega) (by omega)), ?_, ?_, ⟨Nat.zero_le _, e2, fun k hk => absurd hk (Nat.not_lt_zero k)⟩, e7⟩
  · rw [e 94 (by omega) (by omega) (by omega)]; exact p3
  · rw [e 94 (by omega) (by omega) (by omega)]; exact p4
  · have hb := kD_b (i := (p + 7 - j) % 8) (by omega)
    exact RDs_cg (d2 t (List.mem_of_getElem? hj)) (p5 j t hj) (fun a h1 h2 => e a (by omega) (by omega) (by omega))
  · rw [e0]; exact c3
  · rw [e 367 (by omega) (by omega) (by omega)]; exact c5
  · rw [e 367 (by omega) (by omega) (by omega)]; exact c6
theorem NT_o {x a : Nat} {b : Int32} (h : x ≠ 367) : NT σ a b x = σ x := by
  unfold NT; funext k; rw [u2_na h, u2_na h]
theorem ordX_le {r : Rc} {s s' : Sg} (h : ordX ng nd r s = .inl s') : s'.2.2.2 ≤ s.2.2.2 + 200 := by
  obtain ⟨g, oh, nc, hr⟩ := s
  unfold ordX at h
  dsimp only at h ⊢
  split at h
  · split at h
    · cases h; dsimp only; omega
    · cases h
  · split at h
    · split at h
      · cases h; dsimp only; omega
      · cases h
    · split at h
      · split at h
        · cases h; dsimp only; omega
        · cases h
      · split at h
        · split at h
          · split at h
            · cases h
            · split at h
              · cases h
              · cases h; dsimp only; omega
          · cases h
        · split at h
          · split at h
            · cases h
            · split at h
              · cases h
              · split at h
                · cases h
                · cases h; dsimp only; omega
          · cases h
theorem c_run {N : Nat} (hN : N ≤ 20) (h3 : σ 344 3 = jI N) : ∀ (l : List Rc) (k : Nat) (s : Sg) (τ : Nat → Nat → Int32), k + l.length = N → (∀ i r, l[i]? = some r → odR (fun j q => σ (oA j) q) (k + i) r ∧ RcB r) → SC s ng nd → s.2.2.2 + 200 * l.length < 1000000000 → RD τ 32 s.1 s.2.1 ng nd s.2.2.1 → Fout 32 σ τ →
    (∀ s' τ', runX ng nd l s = .inl s' → SC s' ng nd → RD τ' 32 s'.1 s'.2.1 ng nd s'.2.2.1 → Fout 32 σ τ' → Ev 95 (107, [.ref 0, .int (jI 1), .int (jI 0), .int (jI N)], [], 0, 0, MM Ln τ' lo db) K) →
    (∀ τ' v', runX ng nd l s = .inr none → Fout 32 σ τ' → Ev 95 (107, [.ref 0, .int (jI 1), .int (jI 1), .int v'], [], 0, 0, MM Ln τ' lo db) K) →
    (∀ x d τ' v', runX ng nd l s = .inr (some (x, d)) → Fout 32 σ τ' → Ev 95 (107, [.ref 0, .int (jI 1), .int (jI 2), .int v'], [], 0, 0, MM Ln (NT τ' x d) lo db) K) →
    Ev 95 (65, [.ref 0, .int (jI 1), .int (jI 0), .int (jI k)], [], 0, 0, MM Ln τ lo db) K
  | [], k, s, τ, hk, hT, hB, hh, hR, f, D, W, R => by
    have e3 : τ 344 3 = jI N := by rw [f 344 (by omega)]; exact h3
    have hkN : k = N := hk
    subst hkN
    rw [s_95_65]
    simp (disch := first | assumption | omega) only [s_95_0, s_95_1, s_95_4, r_95_4, s_95_7, s_95_8, s_95_9, s_95_12, s_95_13, s_95_16, s_95_17, s_95_18, s_95_21, s_95_22, s_95_25, s_95_26, s_95_29, s_95_32, s_95_35, s_95_36, s_95_39, s_95_50, s_95_51, s_95_54, s_95_55, s_95_58, r_95_58, s_95_61, s_95_62, s_95_63, s_95_64, s_95_66, s_95_67, s_95_70, s_95_73, s_95_76, s_95_77, s_95_80, s_95_81, s_95_84, s_95_85, s_95_88, s_95_91, s_95_92, s_95_93, s_95_94, s_95_97, r_95_97, s_95_100, s_95_101, s_95_104, s_95_108, s_95_109, s_95_112, s_95_123, s_95_124, s_95_125, s_95_128, s_95_139, s_95_140, s_95_143, s_95_144, s_95_147, r_95_147, s_95_150, s_95_151, s_95_154, s_95_155, s_95_158, r_95_158, s_95_161, s_95_162, s_95_165, s_95_168, jI_mul, jI_add, jI_tnc, jI_ixT, true_and, and_true, bZ_0, bZ_1, bZ_b, jI_nz, jI_div, jI_rem, jI_mod, Nat.add_zero, bI_if, not_false_iff, if_true, if_false, eq_self, e3, Int32.le_refl, if_true]
    exact D s _ rfl hB hR f
  | r :: l, k, s, τ, hk, hT, hB, hh, hR, f, D, W, R => by
    have hD32 := DI_32
    have e3 : τ 344 3 = jI N := by rw [f 344 (by omega)]; exact h3
    have hk' : k + (l.length + 1) = N := hk
    have hT0 := hT 0 r rfl
    have hB' : Cb s.1 ng nd s.2.2.1 s.2.2.2 := hB
    have hng := hB'.1
    have hnd := hB'.2.1
    have hh' : s.2.2.2 + 200 * (l.length + 1) < 1000000000 := hh
    have eo : (fun j q => τ (oA j) q) k = (fun j q => σ (oA j) q) k := by
      show τ (oA k) = σ (oA k)
      exact f (oA k) (by unfold oA; omega)
    have hod : odR (fun j q => τ (oA j) q) k r := by
      unfold odR
      rw [eo]
      exact hT0.1
    have n1 : (jI 1 = jI 0) = False := jI_nz (by decide) (by decide)
    have n2 : (jI 2 = jI 0) = False := jI_nz (by decide) (by decide)
    rw [s_95_65]
    simp (disch := first | assumption | omega) only [s_95_0, s_95_1, s_95_4, r_95_4, s_95_7, s_95_8, s_95_9, s_95_12, s_95_13, s_95_16, s_95_17, s_95_18, s_95_21, s_95_22, s_95_25, s_95_26, s_95_29, s_95_32, s_95_35, s_95_36, s_95_39, s_95_50, s_95_51, s_95_54, s_95_55, s_95_58, r_95_58, s_95_61, s_95_62, s_95_63, s_95_64, s_95_66, s_95_67, s_95_70, s_95_73, s_95_76, s_95_77, s_95_80, s_95_81, s_95_84, s_95_85, s_95_88, s_95_91, s_95_92, s_95_93, s_95_94, s_95_97, r_95_97, s_95_100, s_95_101, s_95_104, s_95_108, s_95_109, s_95_112, s_95_123, s_95_124, s_95_125, s_95_128, s_95_139, s_95_140, s_95_143, s_95_144, s_95_147, r_95_147, s_95_150, s_95_151, s_95_154, s_95_155, s_95_158, r_95_158, s_95_161, s_95_162, s_95_165, s_95_168, jI_mul, jI_add, jI_tnc, jI_ixT, true_and, and_true, bZ_0, bZ_1, bZ_b, jI_nz, jI_div, jI_rem, jI_mod, Nat.add_zero, bI_if, not_false_iff, if_true, if_false, eq_self, e3, jI_le, if_true]
    rw [if_neg (by omega), MM_LD hR.1]
    refine c_carry (r := r) hD32 hB' (by omega) hR.2 (by omega) hod hT0.2 (fun s' τ' he f2 hO2 => ?_) (fun he => ?_) (fun x d he => ?_)
    · have hs : (s.1, s.2.1, s.2.2.1, s.2.2.2) = s := rfl
      rw [hs] at he
      have hcb := ordX_cb hB (by omega) he
      have hbs : s'.2.2.2 ≤ s.2.2.2 + 200 := ordX_le he
      have hn : runX ng nd (r :: l) s = runX ng nd l s' := by
        show (match ordX ng nd r s with | .inl s' => runX ng nd l s' | .inr e => .inr e) = _
        rw [he]
      rw [hn] at D W R
      simp (disch := first | assumption | omega) only [s_95_0, s_95_1, s_95_4, r_95_4, s_95_7, s_95_8, s_95_9, s_95_12, s_95_13, s_95_16, s_95_17, s_95_18, s_95_21, s_95_22, s_95_25, s_95_26, s_95_29, s_95_32, s_95_35, s_95_36, s_95_39, s_95_50, s_95_51, s_95_54, s_95_55, s_95_58, r_95_58, s_95_61, s_95_62, s_95_63, s_95_64, s_95_66, s_95_67, s_95_70, s_95_73, s_95_76, s_95_77, s_95_80, s_95_81, s_95_84, s_95_85, s_95_88, s_95_91, s_95_92, s_95_93, s_95_94, s_95_97, r_95_97, s_95_100, s_95_101, s_95_104, s_95_108, s_95_109, s_95_112, s_95_123, s_95_124, s_95_125, s_95_128, s_95_139, s_95_140, s_95_143, s_95_144, s_95_147, r_95_147, s_95_150, s_95_151, s_95_154, s_95_155, s_95_158, r_95_158, s_95_161, s_95_162, s_95_165, s_95_168, jI_mul, jI_add, jI_tnc, jI_ixT, true_and, and_true, bZ_0, bZ_1, bZ_b, jI_nz, jI_div, jI_rem, jI_mod, Nat.add_zero, bI_if, not_false_iff, if_true, if_false, eq_self]
      exact c_run hN h3 l (k + 1) s' _ (by omega) (fun i r' hi => by
        have := hT (i + 1) r' (by rw [List.getElem?_cons_succ]; exact hi)
        rw [show k + 1 + i = k + (i + 1) by omega]; exact this) hcb (by omega) (RD.ld hng hO2) (Fout.ld hng hnd (Fout.trans f f2)) D W R
    · have hs : (s.1, s.2.1, s.2.2.1, s.2.2.2) = s := rfl
      rw [hs] at he
      have hn : runX ng nd (r :: l) s = .inr none := by
        show (match ordX ng nd r s with | .inl s' => runX ng nd l s' | .inr e => .inr e) = _
        rw [he]
      simp (disch := first | assumption | omega) only [s_95_0, s_95_1, s_95_4, r_95_4, s_95_7, s_95_8, s_95_9, s_95_12, s_95_13, s_95_16, s_95_17, s_95_18, s_95_21, s_95_22, s_95_25, s_95_26, s_95_29, s_95_32, s_95_35, s_95_36, s_95_39, s_95_50, s_95_51, s_95_54, s_95_55, s_95_58, r_95_58, s_95_61, s_95_62, s_95_63, s_95_64, s_95_66, s_95_67, s_95_70, s_95_73, s_95_76, s_95_77, s_95_80, s_95_81, s_95_84, s_95_85, s_95_88, s_95_91, s_95_92, s_95_93, s_95_94, s_95_97, r_95_97, s_95_100, s_95_101, s_95_104, s_95_108, s_95_109, s_95_112, s_95_123, s_95_124, s_95_125, s_95_128, s_95_139, s_95_140, s_95_143, s_95_144, s_95_147, r_95_147, s_95_150, s_95_151, s_95_154, s_95_155, s_95_158, r_95_158, s_95_161, s_95_162, s_95_165, s_95_168, jI_mul, jI_add, jI_tnc, jI_ixT, true_and, and_true, bZ_0, bZ_1, bZ_b, jI_nz, jI_div, jI_rem, jI_mod, Nat.add_zero, bI_if, not_false_iff, if_true, if_false, eq_self]
      rw [hR.1, s_95_65]
      simp (disch := first | assumption | omega) only [s_95_0, s_95_1, s_95_4, r_95_4, s_95_7, s_95_8, s_95_9, s_95_12, s_95_13, s_95_16, s_95_17, s_95_18, s_95_21, s_95_22, s_95_25, s_95_26, s_95_29, s_95_32, s_95_35, s_95_36, s_95_39, s_95_50, s_95_51, s_95_54, s_95_55, s_95_58, r_95_58, s_95_61, s_95_62, s_95_63, s_95_64, s_95_66, s_95_67, s_95_70, s_95_73, s_95_76, s_95_77, s_95_80, s_95_81, s_95_84, s_95_85, s_95_88, s_95_91, s_95_92, s_95_93, s_95_94, s_95_97, r_95_97, s_95_100, s_95_101, s_95_104, s_95_108, s_95_109, s_95_112, s_95_123, s_95_124, s_95_125, s_95_128, s_95_139, s_95_140, s_95_143, s_95_144, s_95_147, r_95_147, s_95_150, s_95_151, s_95_154, s_95_155, s_95_158, r_95_158, s_95_161, s_95_162, s_95_165, s_95_168, jI_mul, jI_add, jI_tnc, jI_ixT, true_and, and_true, bZ_0, bZ_1, bZ_b, jI_nz, jI_div, jI_rem, jI_mod, Nat.add_zero, bI_if, not_false_iff, if_true, if_false, eq_self, e3, n1, if_false, ite_self]
      exact W _ _ hn f
    · have hs : (s.1, s.2.1, s.2.2.1, s.2.2.2) = s := rfl
      rw [hs] at he
      have hn : runX ng nd (r :: l) s = .inr (some (x, d)) := by
        show (match ordX ng nd r s with | .inl s' => runX ng nd l s' | .inr e => .inr e) = _
        rw [he]
      have e3' : NT τ x d 344 3 = jI N := by rw [NT_o (by decide)]; exact e3
      simp (disch := first | assumption | omega) only [s_95_0, s_95_1, s_95_4, r_95_4, s_95_7, s_95_8, s_95_9, s_95_12, s_95_13, s_95_16, s_95_17, s_95_18, s_95_21, s_95_22, s_95_25, s_95_26, s_95_29, s_95_32, s_95_35, s_95_36, s_95_39, s_95_50, s_95_51, s_95_54, s_95_55, s_95_58, r_95_58, s_95_61, s_95_62, s_95_63, s_95_64, s_95_66, s_95_67, s_95_70, s_95_73, s_95_76, s_95_77, s_95_80, s_95_81, s_95_84, s_95_85, s_95_88, s_95_91, s_95_92, s_95_93, s_95_94, s_95_97, r_95_97, s_95_100, s_95_101, s_95_104, s_95_108, s_95_109, s_95_112, s_95_123, s_95_124, s_95_125, s_95_128, s_95_139, s_95_140, s_95_143, s_95_144, s_95_147, r_95_147, s_95_150, s_95_151, s_95_154, s_95_155, s_95_158, r_95_158, s_95_161, s_95_162, s_95_165, s_95_168, jI_mul, jI_add, jI_tnc, jI_ixT, true_and, and_true, bZ_0, bZ_1, bZ_b, jI_nz, jI_div, jI_rem, jI_mod, Nat.add_zero, bI_if, not_false_iff, if_true, if_false, eq_self]
      rw [NT_of hR.1 hD32 hng hnd, s_95_65]
      simp (disch := first | assumption | omega) only [s_95_0, s_95_1, s_95_4, r_95_4, s_95_7, s_95_8, s_95_9, s_95_12, s_95_13, s_95_16, s_95_17, s_95_18, s_95_21, s_95_22, s_95_25, s_95_26, s_95_29, s_95_32, s_95_35, s_95_36, s_95_39, s_95_50, s_95_51, s_95_54, s_95_55, s_95_58, r_95_58, s_95_61, s_95_62, s_95_63, s_95_64, s_95_66, s_95_67, s_95_70, s_95_73, s_95_76, s_95_77, s_95_80, s_95_81, s_95_84, s_95_85, s_95_88, s_95_91, s_95_92, s_95_93, s_95_94, s_95_97, r_95_97, s_95_100, s_95_101, s_95_104, s_95_108, s_95_109, s_95_112, s_95_123, s_95_124, s_95_125, s_95_128, s_95_139, s_95_140, s_95_143, s_95_144, s_95_147, r_95_147, s_95_150, s_95_151, s_95_154, s_95_155, s_95_158, r_95_158, s_95_161, s_95_162, s_95_165, s_95_168, jI_mul, jI_add, jI_tnc, jI_ixT, true_and, and_true, bZ_0, bZ_1, bZ_b, jI_nz, jI_div, jI_rem, jI_mod, Nat.add_zero, bI_if, not_false_iff, if_true, if_false, eq_self, e3', n2, if_false, ite_self]
      exact R x d _ _ hn f
theorem w_read (hh : h < 900000000) (hG : Gd ((g, oh, ng, nd, nc, h), H, sv, y0, d0, c, len, er)) (hC : CI σ ((g, oh, ng, nd, nc, h), H, sv, y0, d0, c, len, er))
    (F : ∀ e, TXT c len = .inl e → ∀ σ', CI σ' ((g, oh, ng, nd, nc, h), H, sv, y0, d0, c, 0, jI e) → PC σ σ' → K (.inl (some (.int (jI 1)))) (MM Ln σ' lo db))
    (W : ∀ l, TXT c len = .inr l → runX ng nd l (g, oh, nc, h) = .inr none → ∀ σ', CI σ' ((g, oh, ng, nd, nc, h), H, sv, y0, d0, c, 0, jm1) → PC σ σ' → K (.inl (some (.int (jI 1)))) (MM Ln σ' lo db))
    (R : ∀ l x d, TXT c len = .inr l → runX ng nd l (g, oh, nc, h) = .inr (some (x, d)) → ∀ σ', CI σ' ((g, oh, ng, nd, nc, h), H, sv, jI x, d, c, 0, jm1) → PC σ σ' → K (.inl (some (.int (jI 2)))) (MM Ln σ' lo db))
    (D : ∀ l s, TXT c len = .inr l → l.length ≤ 20 → runX ng nd l (g, oh, nc, h) = .inl s → SC s ng nd → ∀ σ', CI σ' ((s.1, s.2.1, ng, nd, s.2.2.1, s.2.2.2), ((g, oh, ng, nd, nc, h) :: H).take 8, sv, y0, d0, c, 0, jm1) → PC σ σ' → K (.inl (some (.int (jI 0)))) (MM Ln σ' (u2 lo 377 0 (jI l.length).toInt64) db)) :
    Ev 207 (0, [.ref 0, .ref 377, .null], [], 0, 0, MM Ln σ lo db) K := by
  have hD1 := DI_1
  have hD32 := DI_32
  have hB : Cb g ng nd nc h := hG.1
  have hng := hB.1
  have hnd := hB.2.1
  have hI : INC σ c len := hC.2.2.2.2.2.2.1
  have n1 : (jI 1 = jI 0) = False := jI_nz (by decide) (by decide)
  have tk : ∀ a n od, ∀ b, b ≠ 344 → ¬ (347 ≤ b ∧ b < 367) → TK σ a n od b = σ b := fun a n od b h1 h2 => by
    funext k
    unfold TK
    rw [if_neg (fun e => h1 e.1), if_neg (fun e => h1 e.1), if_neg h2]
  simp (disch := first | assumption | omega) only [s_207_0, s_207_1, s_207_2, s_207_3, r_207_3, rt_207_3_0, rt_207_3_1, s_207_6, s_207_7, s_207_8, s_207_12, s_207_13, s_207_15, s_207_16, s_207_17, s_207_18, s_95_0, s_95_1, s_95_4, r_95_4, s_95_8, s_95_9, s_95_12, s_95_13, s_95_16, s_95_17, s_95_18, s_95_21, s_95_22, s_95_25, s_95_26, s_95_29, s_95_32, s_95_35, s_95_36, s_95_39, s_95_50, s_95_51, s_95_54, s_95_55, s_95_58, r_95_58, s_95_61, s_95_62, s_95_63, s_95_64, s_95_66, s_95_67, s_95_70, s_95_73, s_95_76, s_95_77, s_95_80, s_95_81, s_95_84, s_95_85, s_95_88, s_95_91, s_95_92, s_95_93, s_95_94, s_95_97, r_95_97, s_95_100, s_95_101, s_95_104, s_95_107, s_95_108, s_95_109, s_95_112, s_95_123, s_95_124, s_95_125, s_95_128, s_95_139, s_95_140, s_95_143, s_95_144, s_95_147, r_95_147, s_95_150, s_95_151, s_95_154, s_95_155, s_95_158, r_95_158, s_95_161, s_95_162, s_95_165, s_95_168, jI_mul, jI_add, jI_tnc, jI_ixT, true_and, and_true, bZ_0, bZ_1, bZ_b, jI_nz, jI_div, jI_rem, jI_mod, Nat.add_zero, bI_if, not_false_iff, if_true, if_false, eq_self]
  refine c_takeApart hI (fun e n' od' he => ?_) (fun l od' he hl hT => ?_)
  · have e4 : u2 (TK σ e n' od') 344 2 (jI 0) 344 4 = jI e := (u2_nk (by decide)).trans TK_4
    simp (disch := first | assumption | omega) only [s_207_0, s_207_1, s_207_2, s_207_3, r_207_3, rt_207_3_0, rt_207_3_1, s_207_6, s_207_7, s_207_8, s_207_12, s_207_13, s_207_15, s_207_16, s_207_17, s_207_18, s_95_0, s_95_1, s_95_4, r_95_4, s_95_7, s_95_8, s_95_9, s_95_12, s_95_13, s_95_16, s_95_17, s_95_18, s_95_21, s_95_22, s_95_25, s_95_26, s_95_29, s_95_32, s_95_35, s_95_36, s_95_39, s_95_50, s_95_51, s_95_54, s_95_55, s_95_58, r_95_58, s_95_61, s_95_62, s_95_63, s_95_64, s_95_66, s_95_67, s_95_70, s_95_73, s_95_76, s_95_77, s_95_80, s_95_81, s_95_84, s_95_85, s_95_88, s_95_91, s_95_92, s_95_93, s_95_94, s_95_97, r_95_97, s_95_100, s_95_101, s_95_104, s_95_107, s_95_108, s_95_109, s_95_112, s_95_123, s_95_124, s_95_125, s_95_128, s_95_139, s_95_140, s_95_143, s_95_144, s_95_147, r_95_147, s_95_150, s_95_151, s_95_154, s_95_155, s_95_158, r_95_158, s_95_161, s_95_162, s_95_165, s_95_168, jI_mul, jI_add, jI_tnc, jI_ixT, true_and, and_true, bZ_0, bZ_1, bZ_b, jI_nz, jI_div, jI_rem, jI_mod, Nat.add_zero, bI_if, not_false_iff, if_true, if_false, eq_self, e4]
    have hm : ∀ a, a ≠ 0 → a ≠ 344 → ¬ (347 ≤ a ∧ a < 367) → u2 (u2 (TK σ e n' od') 344 2 (jI 0)) 0 7 (jI e) a = σ a := fun a h1 h2 h3 => by
      rw [← tk e n' od' a h2 h3]
      funext k
      rw [u2_na h1, u2_na h2]
    refine F e he _ (CI_txt hG hC hm ?_ u2_at ?_) (fun a ha => hm a (by omega) (by omega) (by omega))
    · rw [u2_nk (by decide), u2_na (by decide), tk _ _ _ 0 (by decide) (by omega)]
    · rw [u2_na (by decide), u2_at]
  · simp (disch := first | assumption | omega) only [s_207_0, s_207_1, s_207_2, s_207_3, r_207_3, rt_207_3_0, rt_207_3_1, s_207_6, s_207_7, s_207_8, s_207_12, s_207_13, s_207_15, s_207_16, s_207_17, s_207_18, s_95_0, s_95_1, s_95_4, r_95_4, s_95_7, s_95_8, s_95_9, s_95_12, s_95_13, s_95_16, s_95_17, s_95_18, s_95_21, s_95_22, s_95_25, s_95_26, s_95_29, s_95_32, s_95_35, s_95_36, s_95_39, s_95_50, s_95_51, s_95_54, s_95_55, s_95_58, r_95_58, s_95_61, s_95_62, s_95_63, s_95_64, s_95_66, s_95_67, s_95_70, s_95_73, s_95_76, s_95_77, s_95_80, s_95_81, s_95_84, s_95_85, s_95_88, s_95_91, s_95_92, s_95_93, s_95_94, s_95_97, r_95_97, s_95_100, s_95_101, s_95_104, s_95_107, s_95_108, s_95_109, s_95_112, s_95_123, s_95_124, s_95_125, s_95_128, s_95_139, s_95_140, s_95_143, s_95_144, s_95_147, r_95_147, s_95_150, s_95_151, s_95_154, s_95_155, s_95_158, r_95_158, s_95_161, s_95_162, s_95_165, s_95_168, jI_mul, jI_add, jI_tnc, jI_ixT, true_and, and_true, bZ_0, bZ_1, bZ_b, jI_nz, jI_div, jI_rem, jI_mod, Nat.add_zero, bI_if, not_false_iff, if_true, if_false, eq_self, n1, if_false]
    have hm : ∀ a, a ≠ 0 → a ≠ 344 → ¬ (347 ≤ a ∧ a < 367) → u2 (u2 (TK σ len l.length od') 344 2 (jI 0)) 0 7 jm1 a = σ a := fun a h1 h2 h3 => by
      rw [← tk len l.length od' a h2 h3]
      funext k
      rw [u2_na h1, u2_na h2]
    have hC1 : CI (u2 (u2 (TK σ len l.length od') 344 2 (jI 0)) 0 7 jm1) ((g, oh, ng, nd, nc, h), H, sv, y0, d0, c, 0, jm1) := by
      refine CI_txt hG hC hm ?_ u2_at ?_
      · rw [u2_nk (by decide), u2_na (by decide), tk _ _ _ 0 (by decide) (by omega)]
      · rw [u2_na (by decide), u2_at]
    have h3 : u2 (u2 (TK σ len l.length od') 344 2 (jI 0)) 0 7 jm1 344 3 = jI l.length := by
      rw [u2_na (by decide), u2_nk (by decide)]; exact TK_3
    have ho : ∀ j, j < 20 → u2 (u2 (TK σ len l.length od') 344 2 (jI 0)) 0 7 jm1 (oA j) = od' j := fun j hj => by
      funext q
      rw [u2_na (by unfold oA; omega), u2_na (by unfold oA; omega), TK_o hj]
    have p1 : PC σ (u2 (u2 (TK σ len l.length od') 344 2 (jI 0)) 0 7 jm1) := fun a ha => hm a (by omega) (by omega) (by omega)
    generalize u2 (u2 (TK σ len l.length od') 344 2 (jI 0)) 0 7 jm1 = σ1 at *
    have hG1 : Gd ((g, oh, ng, nd, nc, h), H, sv, y0, d0, c, 0, jm1) := hG
    refine c_copy (o1 := 32) (o2 := 1) hD32 hD1 (by decide) hC1.1 hB (fun τ t1 f1 => ?_)
    simp (disch := first | assumption | omega) only [s_207_0, s_207_1, s_207_2, s_207_3, r_207_3, rt_207_3_0, rt_207_3_1, s_207_6, s_207_7, s_207_8, s_207_12, s_207_13, s_207_15, s_207_16, s_207_17, s_207_18, s_95_0, s_95_1, s_95_4, r_95_4, s_95_7, s_95_8, s_95_9, s_95_12, s_95_13, s_95_16, s_95_17, s_95_18, s_95_21, s_95_22, s_95_25, s_95_26, s_95_29, s_95_32, s_95_35, s_95_36, s_95_39, s_95_50, s_95_51, s_95_54, s_95_55, s_95_58, r_95_58, s_95_61, s_95_62, s_95_63, s_95_64, s_95_66, s_95_67, s_95_70, s_95_73, s_95_76, s_95_77, s_95_80, s_95_81, s_95_84, s_95_85, s_95_88, s_95_91, s_95_92, s_95_93, s_95_94, s_95_97, r_95_97, s_95_100, s_95_101, s_95_104, s_95_107, s_95_108, s_95_109, s_95_112, s_95_123, s_95_124, s_95_125, s_95_128, s_95_139, s_95_140, s_95_143, s_95_144, s_95_147, r_95_147, s_95_150, s_95_151, s_95_154, s_95_155, s_95_158, r_95_158, s_95_161, s_95_162, s_95_165, s_95_168, jI_mul, jI_add, jI_tnc, jI_ixT, true_and, and_true, bZ_0, bZ_1, bZ_b, jI_nz, jI_div, jI_rem, jI_mod, Nat.add_zero, bI_if, not_false_iff, if_true, if_false, eq_self]
    have n21 : (jI 2 = jI 1) = False := by decide
    have n01 : (jI 0 = jI 1) = False := by decide
    have n02 : (jI 0 = jI 2) = False := by decide
    refine c_run (σ := σ1) hl h3 l 0 (g, oh, nc, h) τ (Nat.zero_add _) (fun i r hi => ?_) hB (by dsimp only; omega) t1 f1 (fun s' τ' hx hsc hR2 f2 => ?_) (fun τ' v' hx f2 => ?_) (fun x d τ' v' hx f2 => ?_)
    · have h20 : i < 20 := by
        have := (List.getElem?_eq_some_iff.mp hi).1
        omega
      refine ⟨?_, (hT i r hi).2⟩
      rw [Nat.zero_add]
      have h0 := (hT i r hi).1
      unfold odR at h0 ⊢
      dsimp only
      rw [ho i h20]
      exact h0
    · have hCI := CI_same hG1 hC1 (σ' := τ') (fun a ha => f2 a (by omega))
      simp (disch := first | assumption | omega) only [s_207_0, s_207_1, s_207_2, s_207_3, r_207_3, rt_207_3_0, rt_207_3_1, s_207_6, s_207_7, s_207_8, s_207_12, s_207_13, s_207_15, s_207_16, s_207_17, s_207_18, s_95_0, s_95_1, s_95_4, r_95_4, s_95_7, s_95_8, s_95_9, s_95_12, s_95_13, s_95_16, s_95_17, s_95_18, s_95_21, s_95_22, s_95_25, s_95_26, s_95_29, s_95_32, s_95_35, s_95_36, s_95_39, s_95_50, s_95_51, s_95_54, s_95_55, s_95_58, r_95_58, s_95_61, s_95_62, s_95_63, s_95_64, s_95_66, s_95_67, s_95_70, s_95_73, s_95_76, s_95_77, s_95_80, s_95_81, s_95_84, s_95_85, s_95_88, s_95_91, s_95_92, s_95_93, s_95_94, s_95_97, r_95_97, s_95_100, s_95_101, s_95_104, s_95_107, s_95_108, s_95_109, s_95_112, s_95_123, s_95_124, s_95_125, s_95_128, s_95_139, s_95_140, s_95_143, s_95_144, s_95_147, r_95_147, s_95_150, s_95_151, s_95_154, s_95_155, s_95_158, r_95_158, s_95_161, s_95_162, s_95_165, s_95_168, jI_mul, jI_add, jI_tnc, jI_ixT, true_and, and_true, bZ_0, bZ_1, bZ_b, jI_nz, jI_div, jI_rem, jI_mod, Nat.add_zero, bI_if, not_false_iff, if_true, if_false, eq_self, n01, n02, if_false]
      refine c_keep hG1 hCI (fun τ2 u1 u2' u3 => ?_)
      have hs32 : RD τ2 32 s'.1 s'.2.1 ng nd s'.2.2.1 := RD_cg hng hnd hR2 (fun a q1 q2 => u3 a (by omega))
      have hcs : Cb s'.1 ng nd s'.2.2.1 s'.2.2.2 := hsc
      simp (disch := first | assumption | omega) only [s_207_0, s_207_1, s_207_2, s_207_3, r_207_3, rt_207_3_0, rt_207_3_1, s_207_6, s_207_7, s_207_8, s_207_12, s_207_13, s_207_15, s_207_16, s_207_17, s_207_18, s_95_0, s_95_1, s_95_4, r_95_4, s_95_7, s_95_8, s_95_9, s_95_12, s_95_13, s_95_16, s_95_17, s_95_18, s_95_21, s_95_22, s_95_25, s_95_26, s_95_29, s_95_32, s_95_35, s_95_36, s_95_39, s_95_50, s_95_51, s_95_54, s_95_55, s_95_58, r_95_58, s_95_61, s_95_62, s_95_63, s_95_64, s_95_66, s_95_67, s_95_70, s_95_73, s_95_76, s_95_77, s_95_80, s_95_81, s_95_84, s_95_85, s_95_88, s_95_91, s_95_92, s_95_93, s_95_94, s_95_97, r_95_97, s_95_100, s_95_101, s_95_104, s_95_107, s_95_108, s_95_109, s_95_112, s_95_123, s_95_124, s_95_125, s_95_128, s_95_139, s_95_140, s_95_143, s_95_144, s_95_147, r_95_147, s_95_150, s_95_151, s_95_154, s_95_155, s_95_158, r_95_158, s_95_161, s_95_162, s_95_165, s_95_168, jI_mul, jI_add, jI_tnc, jI_ixT, true_and, and_true, bZ_0, bZ_1, bZ_b, jI_nz, jI_div, jI_rem, jI_mod, Nat.add_zero, bI_if, not_false_iff, if_true, if_false, eq_self]
      refine c_copy (o1 := 1) (o2 := 32) hD1 hD32 (by decide) hs32 hcs (fun τ3 u4 u5 => ?_)
      have e3 : τ3 344 3 = jI l.length := by
        rw [u5 344 (by omega), u3 344 (by omega), f2 344 (by omega)]; exact h3
      simp (disch := first | assumption | omega) only [s_207_0, s_207_1, s_207_2, s_207_3, r_207_3, rt_207_3_0, rt_207_3_1, s_207_6, s_207_7, s_207_8, s_207_12, s_207_13, s_207_15, s_207_16, s_207_17, s_207_18, s_95_0, s_95_1, s_95_4, r_95_4, s_95_7, s_95_8, s_95_9, s_95_12, s_95_13, s_95_16, s_95_17, s_95_18, s_95_21, s_95_22, s_95_25, s_95_26, s_95_29, s_95_32, s_95_35, s_95_36, s_95_39, s_95_50, s_95_51, s_95_54, s_95_55, s_95_58, r_95_58, s_95_61, s_95_62, s_95_63, s_95_64, s_95_66, s_95_67, s_95_70, s_95_73, s_95_76, s_95_77, s_95_80, s_95_81, s_95_84, s_95_85, s_95_88, s_95_91, s_95_92, s_95_93, s_95_94, s_95_97, r_95_97, s_95_100, s_95_101, s_95_104, s_95_107, s_95_108, s_95_109, s_95_112, s_95_123, s_95_124, s_95_125, s_95_128, s_95_139, s_95_140, s_95_143, s_95_144, s_95_147, r_95_147, s_95_150, s_95_151, s_95_154, s_95_155, s_95_158, r_95_158, s_95_161, s_95_162, s_95_165, s_95_168, jI_mul, jI_add, jI_tnc, jI_ixT, true_and, and_true, bZ_0, bZ_1, bZ_b, jI_nz, jI_div, jI_rem, jI_mod, Nat.add_zero, bI_if, not_false_iff, if_true, if_false, eq_self, e3]
      exact D l s' he hl hx hsc _ (CI_curF (s' := (s'.1, s'.2.1, ng, nd, s'.2.2.1, s'.2.2.2)) (Gd_keep hG1) u1 u4 u5) (fun a ha => (u5 a (by omega)).trans ((u2' a ha).trans ((f2 a (by omega)).trans (p1 a ha))))
    · have hCI := CI_same hG1 hC1 (σ' := τ') (fun a ha => f2 a (by omega))
      simp (disch := first | assumption | omega) only [s_207_0, s_207_1, s_207_2, s_207_3, r_207_3, rt_207_3_0, rt_207_3_1, s_207_6, s_207_7, s_207_8, s_207_12, s_207_13, s_207_15, s_207_16, s_207_17, s_207_18, s_95_0, s_95_1, s_95_4, r_95_4, s_95_7, s_95_8, s_95_9, s_95_12, s_95_13, s_95_16, s_95_17, s_95_18, s_95_21, s_95_22, s_95_25, s_95_26, s_95_29, s_95_32, s_95_35, s_95_36, s_95_39, s_95_50, s_95_51, s_95_54, s_95_55, s_95_58, r_95_58, s_95_61, s_95_62, s_95_63, s_95_64, s_95_66, s_95_67, s_95_70, s_95_73, s_95_76, s_95_77, s_95_80, s_95_81, s_95_84, s_95_85, s_95_88, s_95_91, s_95_92, s_95_93, s_95_94, s_95_97, r_95_97, s_95_100, s_95_101, s_95_104, s_95_107, s_95_108, s_95_109, s_95_112, s_95_123, s_95_124, s_95_125, s_95_128, s_95_139, s_95_140, s_95_143, s_95_144, s_95_147, r_95_147, s_95_150, s_95_151, s_95_154, s_95_155, s_95_158, r_95_158, s_95_161, s_95_162, s_95_165, s_95_168, jI_mul, jI_add, jI_tnc, jI_ixT, true_and, and_true, bZ_0, bZ_1, bZ_b, jI_nz, jI_div, jI_rem, jI_mod, Nat.add_zero, bI_if, not_false_iff, if_true, if_false, eq_self, if_true]
      exact W l he hx _ hCI (fun a ha => (f2 a (by omega)).trans (p1 a ha))
    · have hCI := CI_same hG1 hC1 (σ' := τ') (fun a ha => f2 a (by omega))
      simp (disch := first | assumption | omega) only [s_207_0, s_207_1, s_207_2, s_207_3, r_207_3, rt_207_3_0, rt_207_3_1, s_207_6, s_207_7, s_207_8, s_207_12, s_207_13, s_207_15, s_207_16, s_207_17, s_207_18, s_95_0, s_95_1, s_95_4, r_95_4, s_95_7, s_95_8, s_95_9, s_95_12, s_95_13, s_95_16, s_95_17, s_95_18, s_95_21, s_95_22, s_95_25, s_95_26, s_95_29, s_95_32, s_95_35, s_95_36, s_95_39, s_95_50, s_95_51, s_95_54, s_95_55, s_95_58, r_95_58, s_95_61, s_95_62, s_95_63, s_95_64, s_95_66, s_95_67, s_95_70, s_95_73, s_95_76, s_95_77, s_95_80, s_95_81, s_95_84, s_95_85, s_95_88, s_95_91, s_95_92, s_95_93, s_95_94, s_95_97, r_95_97, s_95_100, s_95_101, s_95_104, s_95_107, s_95_108, s_95_109, s_95_112, s_95_123, s_95_124, s_95_125, s_95_128, s_95_139, s_95_140, s_95_143, s_95_144, s_95_147, r_95_147, s_95_150, s_95_151, s_95_154, s_95_155, s_95_158, r_95_158, s_95_161, s_95_162, s_95_165, s_95_168, jI_mul, jI_add, jI_tnc, jI_ixT, true_and, and_true, bZ_0, bZ_1, bZ_b, jI_nz, jI_div, jI_rem, jI_mod, Nat.add_zero, bI_if, not_false_iff, if_true, if_false, eq_self, n21, if_true, if_false]
      exact R l x d he hx _ (CI_note hG1 hCI) (fun a ha => (PC.note a ha).trans ((f2 a (by omega)).trans (p1 a ha)))
end
