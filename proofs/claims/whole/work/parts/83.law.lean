/-! THE LAW: one call on both sides -/
set_option maxRecDepth 16384
section
variable {K : Ou → Me → Prop} {Ln : Nat} {σ σ' : Nat → Nat → Int32} {g : Gr} {lo : Nat → Nat → Int64} {db : Nat → Nat → UInt64} {oh : Nat → Nat → Bool} {ng nd nc h i k s N : Nat} {G : Ga} {scr : Nat → Int32} {v6 v7 v8 : Value}
theorem SCR_hi : 377 ≤ SCR := by unfold SCR; decide
def LInv (N : Nat) (σ : Nat → Nat → Int32) (G : Ga) : Prop := CI σ G ∧ RI σ G ∧ AllG N G
theorem CI_pr (hG : Gd G) (hC : CI σ G) (f : PR σ σ') : CI σ' G := CI_same hG hC (fun a ha => f a (by omega))
theorem RI_pc (hR : RI σ G) (f : PC σ σ') : RI σ' G := by
  obtain ⟨r1, ⟨h1, h2, h3⟩, r3, r4, r5, r6, r7, r8, r9⟩ := hR
  refine ⟨?_, ⟨h1, ?_, fun j t hj q hq => ?_⟩, ?_, fun t ht q hq => ?_, ?_, ?_, ?_, INP_cg r8 ?_ ?_, ?_⟩
  · rw [f 369 (by decide)]; exact r1
  · rw [f 368 (by decide)]; exact h2
  · rw [f 370 (by decide)]; exact h3 j t hj q hq
  · rw [f 368 (by decide)]; exact r3
  · rw [f 371 (by decide)]; exact r4 t ht q hq
  · rw [f 368 (by decide)]; exact r5
  · rw [f 368 (by decide)]; exact r6
  · rw [f 368 (by decide)]; exact r7
  · rw [f 368 (by decide)]
  · exact f 374 (by decide)
  · rw [f 368 (by decide)]; exact r9
theorem m_thrown : Ev 110 (0, [.ref 368], [], 0, 0, MM Ln σ lo db) K ↔ K (.inl (some (.int (σ 368 8)))) (MM Ln σ lo db) := by
  simp (disch := first | assumption | omega) only [s_110_0, s_110_1, s_110_4, jI_mul, jI_add, jI_tnc, jI_ixT, true_and, and_true, bZ_0, bZ_1, bZ_b, jI_nz, jI_div, jI_rem, jI_mod, Nat.add_zero, bI_if, not_false_iff, if_true, if_false, eq_self]
theorem u2_lo {α : Type} {f : Nat → Nat → α} {a q : Nat} {v : α} : u2 f a q v a q = v := if_pos ⟨rfl, rfl⟩
theorem lgS {x : Int64} : lg_cmp x x = jI 0 := by
  unfold lg_cmp
  rw [if_neg (show ¬ x > x from Int64.lt_irrefl), if_pos rfl]
  rfl
/-- what comes behind a call -/
def NXT (N Ln i k s : Nat) (scr : Nat → Int32) (K : Ou → Me → Prop) : Prop := ∀ (σ' : Nat → Nat → Int32) (lo' : Nat → Nat → Int64) (db' : Nat → Nat → UInt64) (G' : Ga) (v6 v7 v8 : Value) (k' s' : Nat), LInv (N + 4000) σ' G' → σ' SCR = scr → k' ≤ k + 1 → s' ≤ s + 6 → Ev 214 (2075, [.ref SCR, .ref 0, .ref 368, .ref 377, .ref 378, .int (jI i), v6, v7, v8], [], k', s', MM Ln σ' lo' db') K

theorem L_inflow (hL : LInv N σ G) (hN : N ≤ 100000000) (hi : i + 4 < Ln) (hLn : Ln ≤ 100000) (hsc : σ SCR = scr) (hk : k ≤ 603000) (hs : s ≤ 7207000) (HN : NXT N Ln i k s scr K) :
    Ev 214 (188, [.ref SCR, .ref 0, .ref 368, .ref 377, .ref 378, .int (jI i), v6, v7, v8], [], k, s, MM Ln σ lo db) K := by
  obtain ⟨hC, hR, hA⟩ := hL
  have hG := hA.gd
  obtain ⟨⟨g, oh, ng, nd, nc, h⟩, H, sv, y0, d0, c, len, er⟩ := G
  have hS : Snd (g, oh, ng, nd, nc, h) := hA.1.1
  have hh : h ≤ N := hA.1.2
  have hA4 := hA.mono (show N ≤ N + 4000 by omega)
  obtain ⟨hB, hO, hNG, hAC⟩ := Snd_of hS
  have hBa := Bas_of hB hO
  have hB0 := hB
  obtain ⟨b1, b2, b3, b4, b5, b6, b7, b8, b9⟩ := hB
  have n1 : (jI 1 = jI 0) = False := jI_nz (by decide) (by decide)
  have n2 : (jI 2 = jI 0) = False := jI_nz (by decide) (by decide)
  have n3 : (jI 3 = jI 0) = False := jI_nz (by decide) (by decide)
  have hks : k + 1 ≤ 603072 ∧ s + 6 ≤ 7207018 := by omega
  have hks2 : k + 1 + 0 ≤ 603072 ∧ s + 6 + 0 ≤ 7207018 := by omega
  simp (disch := first | assumption | omega) only [s_214_188, s_214_189, s_214_190, s_214_192, s_214_193, s_214_194, s_214_195, s_214_196, r_214_196, s_214_199, s_214_201, s_214_202, s_214_203, s_214_205, s_214_206, s_214_207, s_214_208, r_214_208, s_214_211, s_214_213, s_214_214, r_214_214, s_214_217, s_214_219, s_214_222, s_214_223, s_214_224, s_214_226, s_214_229, s_214_230, s_214_231, s_214_232, s_214_234, s_214_235, s_214_236, s_214_239, s_214_240, s_214_241, jI_mul, jI_add, jI_tnc, jI_ixT, true_and, and_true, bZ_0, bZ_1, bZ_b, jI_nz, jI_div, jI_rem, jI_mod, Nat.add_zero, bI_if, not_false_iff, if_true, if_false, eq_self, hsc]
  refine w_inflow hG hC (fun q => ?_) (fun q σ1 hC1 p1 => ?_)
  · simp (disch := first | assumption | omega) only [s_214_188, s_214_189, s_214_190, s_214_192, s_214_193, s_214_194, s_214_195, s_214_196, r_214_196, s_214_199, s_214_201, s_214_202, s_214_203, s_214_205, s_214_206, s_214_207, s_214_208, r_214_208, s_214_211, s_214_213, s_214_214, r_214_214, s_214_217, s_214_219, s_214_222, s_214_223, s_214_224, s_214_226, s_214_229, s_214_230, s_214_231, s_214_232, s_214_234, s_214_235, s_214_236, s_214_239, s_214_240, s_214_241, jI_mul, jI_add, jI_tnc, jI_ixT, true_and, and_true, bZ_0, bZ_1, bZ_b, jI_nz, jI_div, jI_rem, jI_mod, Nat.add_zero, bI_if, not_false_iff, if_true, if_false, eq_self, hsc]
    have e9 : σ 369 = g := (hR).1
    have e6 : σ 368 6 = jI H.length := (hR).2.1.2.1
    have el : H.length ≤ 8 := (hR).2.1.1
    have e7 : σ 368 7 = jI 0 := (hR).2.2.2.2.1
    rw [MM_MG e9, m_inflow (wi := false) e7 e6 el, if_neg q]
    obtain ⟨a1, a2, a3⟩ := RI_code (v := jI 1) hR
    dsimp only at a1 a2 a3
    simp (disch := first | assumption | omega) only [s_214_188, s_214_189, s_214_190, s_214_192, s_214_193, s_214_194, s_214_195, s_214_196, r_214_196, s_214_199, s_214_201, s_214_202, s_214_203, s_214_205, s_214_206, s_214_207, s_214_208, r_214_208, s_214_211, s_214_213, s_214_214, r_214_214, s_214_217, s_214_219, s_214_222, s_214_223, s_214_224, s_214_226, s_214_229, s_214_230, s_214_231, s_214_232, s_214_234, s_214_235, s_214_236, s_214_239, s_214_240, s_214_241, jI_mul, jI_add, jI_tnc, jI_ixT, true_and, and_true, bZ_0, bZ_1, bZ_b, jI_nz, jI_div, jI_rem, jI_mod, Nat.add_zero, bI_if, not_false_iff, if_true, if_false, eq_self, m_thrown, a2, n1, if_true, if_false]
    exact HN _ _ _ _ _ _ _ _ _ ⟨CI_pr hG hC a3, a1, hA4⟩ ((a3 SCR (Or.inr SCR_hi)).trans hsc) (by omega) (by omega)
  · have hR1 := RI_pc hR p1
    have hsc1 : σ1 SCR = scr := (p1 SCR (by have := SCR_hi; omega)).trans hsc
    obtain ⟨n, en, n0, n5⟩ := rng_of q (by decide) (by decide)
    have hS1 : Snd (gu g 1 (scr (i + 1)), oh, ng, nd, nc, h) := by rw [en]; exact snd_inf hS n5
    have hA1 : AllG (N + 4000) ((gu g 1 (scr (i + 1)), oh, ng, nd, nc, h), ((g, oh, ng, nd, nc, h) :: H).take 8, sv, y0, d0, c, len, er) := hA.keep (by omega) ⟨hS1, by dsimp only; omega⟩
    simp (disch := first | assumption | omega) only [s_214_188, s_214_189, s_214_190, s_214_192, s_214_193, s_214_194, s_214_195, s_214_196, r_214_196, s_214_199, s_214_201, s_214_202, s_214_203, s_214_205, s_214_206, s_214_207, s_214_208, r_214_208, s_214_211, s_214_213, s_214_214, r_214_214, s_214_217, s_214_219, s_214_222, s_214_223, s_214_224, s_214_226, s_214_229, s_214_230, s_214_231, s_214_232, s_214_234, s_214_235, s_214_236, s_214_239, s_214_240, s_214_241, jI_mul, jI_add, jI_tnc, jI_ixT, true_and, and_true, bZ_0, bZ_1, bZ_b, jI_nz, jI_div, jI_rem, jI_mod, Nat.add_zero, bI_if, not_false_iff, if_true, if_false, eq_self, hsc1]
    have e9 : σ1 369 = g := (hR1).1
    have e6 : σ1 368 6 = jI H.length := (hR1).2.1.2.1
    have el : H.length ≤ 8 := (hR1).2.1.1
    have e7 : σ1 368 7 = jI 0 := (hR1).2.2.2.2.1
    rw [MM_MG e9, m_inflow (wi := false) e7 e6 el, if_pos q]
    obtain ⟨a1, a2, a3⟩ := RI_keep (s' := (gu g 1 (scr (i + 1)), oh, ng, nd, nc, h)) (τ := _) hR1 FR.refl
    dsimp only at a1 a2 a3
    simp (disch := first | assumption | omega) only [s_214_188, s_214_189, s_214_190, s_214_192, s_214_193, s_214_194, s_214_195, s_214_196, r_214_196, s_214_199, s_214_201, s_214_202, s_214_203, s_214_205, s_214_206, s_214_207, s_214_208, r_214_208, s_214_211, s_214_213, s_214_214, r_214_214, s_214_217, s_214_219, s_214_222, s_214_223, s_214_224, s_214_226, s_214_229, s_214_230, s_214_231, s_214_232, s_214_234, s_214_235, s_214_236, s_214_239, s_214_240, s_214_241, jI_mul, jI_add, jI_tnc, jI_ixT, true_and, and_true, bZ_0, bZ_1, bZ_b, jI_nz, jI_div, jI_rem, jI_mod, Nat.add_zero, bI_if, not_false_iff, if_true, if_false, eq_self, m_thrown, a2, u2_lo, lgS, if_true, if_false]
    exact HN _ _ _ _ _ _ _ _ _ ⟨CI_pr (AllG.gd hA1) hC1 a3, a1, hA1⟩ ((a3 SCR (Or.inr SCR_hi)).trans hsc1) (by omega) (by omega)

theorem L_fine (hL : LInv N σ G) (hN : N ≤ 100000000) (hi : i + 4 < Ln) (hLn : Ln ≤ 100000) (hsc : σ SCR = scr) (hk : k ≤ 603000) (hs : s ≤ 7207000) (HN : NXT N Ln i k s scr K) :
    Ev 214 (244, [.ref SCR, .ref 0, .ref 368, .ref 377, .ref 378, .int (jI i), v6, v7, v8], [], k, s, MM Ln σ lo db) K := by
  obtain ⟨hC, hR, hA⟩ := hL
  have hG := hA.gd
  obtain ⟨⟨g, oh, ng, nd, nc, h⟩, H, sv, y0, d0, c, len, er⟩ := G
  have hS : Snd (g, oh, ng, nd, nc, h) := hA.1.1
  have hh : h ≤ N := hA.1.2
  have hA4 := hA.mono (show N ≤ N + 4000 by omega)
  obtain ⟨hB, hO, hNG, hAC⟩ := Snd_of hS
  have hBa := Bas_of hB hO
  have hB0 := hB
  obtain ⟨b1, b2, b3, b4, b5, b6, b7, b8, b9⟩ := hB
  have n1 : (jI 1 = jI 0) = False := jI_nz (by decide) (by decide)
  have n2 : (jI 2 = jI 0) = False := jI_nz (by decide) (by decide)
  have n3 : (jI 3 = jI 0) = False := jI_nz (by decide) (by decide)
  have hks : k + 1 ≤ 603072 ∧ s + 6 ≤ 7207018 := by omega
  have hks2 : k + 1 + 0 ≤ 603072 ∧ s + 6 + 0 ≤ 7207018 := by omega
  simp (disch := first | assumption | omega) only [s_214_244, s_214_245, s_214_246, s_214_248, s_214_249, s_214_250, s_214_251, s_214_252, r_214_252, s_214_255, s_214_257, s_214_258, s_214_259, s_214_261, s_214_262, s_214_263, s_214_264, r_214_264, s_214_267, s_214_269, s_214_270, r_214_270, s_214_273, s_214_275, s_214_278, s_214_279, s_214_280, s_214_282, s_214_285, s_214_286, s_214_287, s_214_288, s_214_290, s_214_291, s_214_292, s_214_295, s_214_296, s_214_297, jI_mul, jI_add, jI_tnc, jI_ixT, true_and, and_true, bZ_0, bZ_1, bZ_b, jI_nz, jI_div, jI_rem, jI_mod, Nat.add_zero, bI_if, not_false_iff, if_true, if_false, eq_self, hsc]
  refine w_fine hG hC (fun q => ?_) (fun q σ1 hC1 p1 => ?_)
  · simp (disch := first | assumption | omega) only [s_214_244, s_214_245, s_214_246, s_214_248, s_214_249, s_214_250, s_214_251, s_214_252, r_214_252, s_214_255, s_214_257, s_214_258, s_214_259, s_214_261, s_214_262, s_214_263, s_214_264, r_214_264, s_214_267, s_214_269, s_214_270, r_214_270, s_214_273, s_214_275, s_214_278, s_214_279, s_214_280, s_214_282, s_214_285, s_214_286, s_214_287, s_214_288, s_214_290, s_214_291, s_214_292, s_214_295, s_214_296, s_214_297, jI_mul, jI_add, jI_tnc, jI_ixT, true_and, and_true, bZ_0, bZ_1, bZ_b, jI_nz, jI_div, jI_rem, jI_mod, Nat.add_zero, bI_if, not_false_iff, if_true, if_false, eq_self, hsc]
    have e9 : σ 369 = g := (hR).1
    have e6 : σ 368 6 = jI H.length := (hR).2.1.2.1
    have el : H.length ≤ 8 := (hR).2.1.1
    have e7 : σ 368 7 = jI 0 := (hR).2.2.2.2.1
    rw [MM_MG e9, m_fine (wi := false) e7 e6 el, if_neg q]
    obtain ⟨a1, a2, a3⟩ := RI_code (v := jI 1) hR
    dsimp only at a1 a2 a3
    simp (disch := first | assumption | omega) only [s_214_244, s_214_245, s_214_246, s_214_248, s_214_249, s_214_250, s_214_251, s_214_252, r_214_252, s_214_255, s_214_257, s_214_258, s_214_259, s_214_261, s_214_262, s_214_263, s_214_264, r_214_264, s_214_267, s_214_269, s_214_270, r_214_270, s_214_273, s_214_275, s_214_278, s_214_279, s_214_280, s_214_282, s_214_285, s_214_286, s_214_287, s_214_288, s_214_290, s_214_291, s_214_292, s_214_295, s_214_296, s_214_297, jI_mul, jI_add, jI_tnc, jI_ixT, true_and, and_true, bZ_0, bZ_1, bZ_b, jI_nz, jI_div, jI_rem, jI_mod, Nat.add_zero, bI_if, not_false_iff, if_true, if_false, eq_self, m_thrown, a2, n1, if_true, if_false]
    exact HN _ _ _ _ _ _ _ _ _ ⟨CI_pr hG hC a3, a1, hA4⟩ ((a3 SCR (Or.inr SCR_hi)).trans hsc) (by omega) (by omega)
  · have hR1 := RI_pc hR p1
    have hsc1 : σ1 SCR = scr := (p1 SCR (by have := SCR_hi; omega)).trans hsc
    have hS1 : Snd (gu g 2 (scr (i + 1)), oh, ng, nd, nc, h) := snd_fine hS
    have hA1 : AllG (N + 4000) ((gu g 2 (scr (i + 1)), oh, ng, nd, nc, h), ((g, oh, ng, nd, nc, h) :: H).take 8, sv, y0, d0, c, len, er) := hA.keep (by omega) ⟨hS1, by dsimp only; omega⟩
    simp (disch := first | assumption | omega) only [s_214_244, s_214_245, s_214_246, s_214_248, s_214_249, s_214_250, s_214_251, s_214_252, r_214_252, s_214_255, s_214_257, s_214_258, s_214_259, s_214_261, s_214_262, s_214_263, s_214_264, r_214_264, s_214_267, s_214_269, s_214_270, r_214_270, s_214_273, s_214_275, s_214_278, s_214_279, s_214_280, s_214_282, s_214_285, s_214_286, s_214_287, s_214_288, s_214_290, s_214_291, s_214_292, s_214_295, s_214_296, s_214_297, jI_mul, jI_add, jI_tnc, jI_ixT, true_and, and_true, bZ_0, bZ_1, bZ_b, jI_nz, jI_div, jI_rem, jI_mod, Nat.add_zero, bI_if, not_false_iff, if_true, if_false, eq_self, hsc1]
    have e9 : σ1 369 = g := (hR1).1
    have e6 : σ1 368 6 = jI H.length := (hR1).2.1.2.1
    have el : H.length ≤ 8 := (hR1).2.1.1
    have e7 : σ1 368 7 = jI 0 := (hR1).2.2.2.2.1
    rw [MM_MG e9, m_fine (wi := false) e7 e6 el, if_pos q]
    obtain ⟨a1, a2, a3⟩ := RI_keep (s' := (gu g 2 (scr (i + 1)), oh, ng, nd, nc, h)) (τ := _) hR1 FR.refl
    dsimp only at a1 a2 a3
    simp (disch := first | assumption | omega) only [s_214_244, s_214_245, s_214_246, s_214_248, s_214_249, s_214_250, s_214_251, s_214_252, r_214_252, s_214_255, s_214_257, s_214_258, s_214_259, s_214_261, s_214_262, s_214_263, s_214_264, r_214_264, s_214_267, s_214_269, s_214_270, r_214_270, s_214_273, s_214_275, s_214_278, s_214_279, s_214_280, s_214_282, s_214_285, s_214_286, s_214_287, s_214_288, s_214_290, s_214_291, s_214_292, s_214_295, s_214_296, s_214_297, jI_mul, jI_add, jI_tnc, jI_ixT, true_and, and_true, bZ_0, bZ_1, bZ_b, jI_nz, jI_div, jI_rem, jI_mod, Nat.add_zero, bI_if, not_false_iff, if_true, if_false, eq_self, m_thrown, a2, u2_lo, lgS, if_true, if_false]
    exact HN _ _ _ _ _ _ _ _ _ ⟨CI_pr (AllG.gd hA1) hC1 a3, a1, hA1⟩ ((a3 SCR (Or.inr SCR_hi)).trans hsc1) (by omega) (by omega)

end
