/-! THE LAW: one call on both sides -/
set_option maxRecDepth 16384
section
variable {K : Ou → Me → Prop} {Ln : Nat} {σ σ' : Nat → Nat → Int32} {g : Gr} {lo : Nat → Nat → Int64} {db : Nat → Nat → UInt64} {oh : Nat → Nat → Bool} {ng nd nc h i k s N : Nat} {G : Ga} {scr : Nat → Int32} {v6 v7 v8 : Value}
theorem SCR_hi : 377 ≤ SCR := by unfold SCR; decide
def LInv (N : Nat) (σ : Nat → Nat → Int32) (G : Ga) : Prop := CI σ G ∧ RI σ G ∧ AllG N G
theorem CI_pr (hG : Gd G) (hC : CI σ G) (f : PR σ σ') : CI σ' G := CI_same hG hC (fun a ha => f a (by omega))
theorem RI_pc (hR : RI σ G) (f : PC σ σ') : RI σ' G := by
  obtain ⟨r1, ⟨h1, h2, h3⟩, r3, r4, r5, r6, r7, r8, r9⟩ := hR
  refine ⟨?_, ⟨h1, ?_, fun j t hj q hq => ?_⟩, ?_, fun t ht q hq => ?_, ?_, ?_, ?_, INP_cg r8 ?_ ?_, ?_⟩
  · rw [f 369 (by decide)]; exact r1
  · rw [f 368 (by decide)]; exact h2
  · rw [f 370 (by decide)]; exact h3 j t hj q hq
  · rw [f 368 (by decide)]; exact r3
  · rw [f 371 (by decide)]; exact r4 t ht q hq
  · rw [f 368 (by decide)]; exact r5
  · rw [f 368 (by decide)]; exact r6
  · rw [f 368 (by decide)]; exact r7
  · rw [f 368 (by decide)]
  · exact f 374 (by decide)
  · rw [f 368 (by decide)]; exact r9
theorem m_thrown : Ev 110 (0, [.ref 368], [], 0, 0, MM Ln σ lo db) K ↔ K (.inl (some (.int (σ 368 8)))) (MM Ln σ lo db) := by
  simp (disch := first | assumption | omega) only [s_110_0, s_110_1, s_110_4, jI_mul, jI_add, jI_tnc, jI_ixT, true_and, and_true, bZ_0, bZ_1, bZ_b, jI_nz, jI_div, jI_rem, jI_mod, Nat.add_zero, bI_if, not_false_iff, if_true, if_false, eq_self]
theorem u2_lo {α : Type} {f : Nat → Nat → α} {a q : Nat} {v : α} : u2 f a q v a q = v := if_pos ⟨rfl, rfl⟩
theorem lgS {x : Int64} : lg_cmp x x = jI 0 := by
  unfold lg_cmp
  rw [if_neg (show ¬ x > x from Int64.lt_irrefl), if_pos rfl]
  rfl
/-- what comes behind a call -/
def NXT (N Ln i k s : Nat) (scr : Nat → Int32) (K : Ou → Me → Prop) : Prop := ∀ (σ' : Nat → Nat → Int32) (lo' : Nat → Nat → Int64) (db' : Nat → Nat → UInt64) (G' : Ga) (v6 v7 v8 : Value) (k' s' : Nat), LInv (N + 4000) σ' G' → σ' SCR = scr → k' ≤ k + 1 → s' ≤ s + 6 → Ev 214 (2075, [.ref SCR, .ref 0, .ref 368, .ref 377, .ref 378, .int (jI i), v6, v7, v8], [], k', s', MM Ln σ' lo' db') K
theorem hs_mk {v : Int32} {q n : Nat} (e : v = jI q) (hq : q < n) (hn : n ≤ 12) : hs v n := by
  rw [e]; exact (hs_jI hn (by omega)).mpr hq
theorem jI_c {a b : Nat} {v : Int32} (e1 : v = jI a) (e2 : v = jI b) (ha : a < 100000) (hb : b < 100000) : a = b := (jI_inj (by omega) (by omega)).mp (e1.symm.trans e2)
theorem area_mk {x y : Int32} {a n : Nat} (e1 : x = jI a) (e2 : y = jI (a + n)) (hn : a + n < 168) : rng x 0 167 ∧ ¬ y < x ∧ ¬ jI 167 < y := by
  rw [e1, e2, rng_iff (by omega) (by omega) (by omega), jI_lt (by omega) (by omega), jI_lt (by omega) (by omega)]
  omega

theorem L_inflow (hL : LInv N σ G) (hN : N ≤ 100000000) (hi : i + 4 < Ln) (hLn : Ln ≤ 100000) (hsc : σ SCR = scr) (hk : k ≤ 603000) (hs : s ≤ 7207000) (HN : NXT N Ln i k s scr K) :
    Ev 214 (188, [.ref SCR, .ref 0, .ref 368, .ref 377, .ref 378, .int (jI i), v6, v7, v8], [], k, s, MM Ln σ lo db) K := by
  obtain ⟨hC, hR, hA⟩ := hL
  have hG := hA.gd
  obtain ⟨⟨g, oh, ng, nd, nc, h⟩, H, sv, y0, d0, c, len, er⟩ := G
  have hS : Snd (g, oh, ng, nd, nc, h) := hA.1.1
  have hh : h ≤ N := hA.1.2
  have hA4 := hA.mono (show N ≤ N + 4000 by omega)
  obtain ⟨hB, hO, hNG, hAC⟩ := Snd_of hS
  have hBa := Bas_of hB hO
  have hB0 := hB
  obtain ⟨b1, b2, b3, b4, b5, b6, b7, b8, b9⟩ := hB
  have n1 : (jI 1 = jI 0) = False := jI_nz (by decide) (by decide)
  have n2 : (jI 2 = jI 0) = False := jI_nz (by decide) (by decide)
  have n3 : (jI 3 = jI 0) = False := jI_nz (by decide) (by decide)
  have hks : k + 1 ≤ 603072 ∧ s + 6 ≤ 7207017 := by omega
  have hks2 : k + 1 + 0 ≤ 603072 ∧ s + 6 + 0 ≤ 7207017 := by omega
  simp (disch := first | assumption | omega) only [s_214_188, s_214_189, s_214_190, s_214_192, s_214_193, s_214_194, s_214_195, s_214_196, r_214_196, s_214_199, s_214_201, s_214_202, s_214_203, s_214_205, s_214_206, s_214_207, s_214_208, r_214_208, s_214_211, s_214_213, s_214_214, r_214_214, s_214_217, s_214_219, s_214_222, s_214_223, s_214_224, s_214_226, s_214_229, s_214_230, s_214_231, s_214_232, s_214_234, s_214_235, s_214_236, s_214_239, s_214_240, s_214_241, jI_mul, jI_add, jI_tnc, jI_ixT, true_and, and_true, bZ_0, bZ_1, bZ_b, jI_nz, jI_div, jI_rem, jI_mod, Nat.add_zero, bI_if, not_false_iff, if_true, if_false, eq_self, hsc]
  refine w_inflow hG hC (fun q => ?_) (fun q σ1 hC1 p1 => ?_)
  · simp (disch := first | assumption | omega) only [s_214_188, s_214_189, s_214_190, s_214_192, s_214_193, s_214_194, s_214_195, s_214_196, r_214_196, s_214_199, s_214_201, s_214_202, s_214_203, s_214_205, s_214_206, s_214_207, s_214_208, r_214_208, s_214_211, s_214_213, s_214_214, r_214_214, s_214_217, s_214_219, s_214_222, s_214_223, s_214_224, s_214_226, s_214_229, s_214_230, s_214_231, s_214_232, s_214_234, s_214_235, s_214_236, s_214_239, s_214_240, s_214_241, jI_mul, jI_add, jI_tnc, jI_ixT, true_and, and_true, bZ_0, bZ_1, bZ_b, jI_nz, jI_div, jI_rem, jI_mod, Nat.add_zero, bI_if, not_false_iff, if_true, if_false, eq_self, hsc]
    have e9 : σ 369 = g := (hR).1
    have e6 : σ 368 6 = jI H.length := (hR).2.1.2.1
    have el : H.length ≤ 8 := (hR).2.1.1
    have e7 : σ 368 7 = jI 0 := (hR).2.2.2.2.1
    rw [MM_MG e9, m_inflow (wi := false) e7 e6 el, if_neg q]
    obtain ⟨a1, a2, a3⟩ := RI_code (v := jI 1) hR
    dsimp only at a1 a2 a3
    simp (disch := first | assumption | omega) only [s_214_188, s_214_189, s_214_190, s_214_192, s_214_193, s_214_194, s_214_195, s_214_196, r_214_196, s_214_199, s_214_201, s_214_202, s_214_203, s_214_205, s_214_206, s_214_207, s_214_208, r_214_208, s_214_211, s_214_213, s_214_214, r_214_214, s_214_217, s_214_219, s_214_222, s_214_223, s_214_224, s_214_226, s_214_229, s_214_230, s_214_231, s_214_232, s_214_234, s_214_235, s_214_236, s_214_239, s_214_240, s_214_241, jI_mul, jI_add, jI_tnc, jI_ixT, true_and, and_true, bZ_0, bZ_1, bZ_b, jI_nz, jI_div, jI_rem, jI_mod, Nat.add_zero, bI_if, not_false_iff, if_true, if_false, eq_self, m_thrown, a2, n1, if_true, if_false]
    exact HN _ _ _ _ _ _ _ _ _ ⟨CI_pr hG hC a3, a1, hA4⟩ ((a3 SCR (Or.inr SCR_hi)).trans hsc) (by omega) (by omega)
  · have hR1 := RI_pc hR p1
    have hsc1 : σ1 SCR = scr := (p1 SCR (by have := SCR_hi; omega)).trans hsc
    obtain ⟨n, en, n0, n5⟩ := rng_of q (by decide) (by decide)
    have hS1 : Snd (gu g 1 (scr (i + 1)), oh, ng, nd, nc, h) := by rw [en]; exact snd_inf hS n5
    have hA1 : AllG (N + 4000) ((gu g 1 (scr (i + 1)), oh, ng, nd, nc, h), ((g, oh, ng, nd, nc, h) :: H).take 8, sv, y0, d0, c, len, er) := hA.keep (by omega) ⟨hS1, by dsimp only; omega⟩
    simp (disch := first | assumption | omega) only [s_214_188, s_214_189, s_214_190, s_214_192, s_214_193, s_214_194, s_214_195, s_214_196, r_214_196, s_214_199, s_214_201, s_214_202, s_214_203, s_214_205, s_214_206, s_214_207, s_214_208, r_214_208, s_214_211, s_214_213, s_214_214, r_214_214, s_214_217, s_214_219, s_214_222, s_214_223, s_214_224, s_214_226, s_214_229, s_214_230, s_214_231, s_214_232, s_214_234, s_214_235, s_214_236, s_214_239, s_214_240, s_214_241, jI_mul, jI_add, jI_tnc, jI_ixT, true_and, and_true, bZ_0, bZ_1, bZ_b, jI_nz, jI_div, jI_rem, jI_mod, Nat.add_zero, bI_if, not_false_iff, if_true, if_false, eq_self, hsc1]
    have e9 : σ1 369 = g := (hR1).1
    have e6 : σ1 368 6 = jI H.length := (hR1).2.1.2.1
    have el : H.length ≤ 8 := (hR1).2.1.1
    have e7 : σ1 368 7 = jI 0 := (hR1).2.2.2.2.1
    rw [MM_MG e9, m_inflow (wi := false) e7 e6 el, if_pos q]
    obtain ⟨a1, a2, a3⟩ := RI_keep (s' := (gu g 1 (scr (i + 1)), oh, ng, nd, nc, h)) (τ := _) hR1 FR.refl
    dsimp only at a1 a2 a3
    simp (disch := first | assumption | omega) only [s_214_188, s_214_189, s_214_190, s_214_192, s_214_193, s_214_194, s_214_195, s_214_196, r_214_196, s_214_199, s_214_201, s_214_202, s_214_203, s_214_205, s_214_206, s_214_207, s_214_208, r_214_208, s_214_211, s_214_213, s_214_214, r_214_214, s_214_217, s_214_219, s_214_222, s_214_223, s_214_224, s_214_226, s_214_229, s_214_230, s_214_231, s_214_232, s_214_234, s_214_235, s_214_236, s_214_239, s_214_240, s_214_241, jI_mul, jI_add, jI_tnc, jI_ixT, true_and, and_true, bZ_0, bZ_1, bZ_b, jI_nz, jI_div, jI_rem, jI_mod, Nat.add_zero, bI_if, not_false_iff, if_true, if_false, eq_self, m_thrown, a2, u2_lo, lgS, if_true, if_false]
    exact HN _ _ _ _ _ _ _ _ _ ⟨CI_pr (AllG.gd hA1) hC1 a3, a1, hA1⟩ ((a3 SCR (Or.inr SCR_hi)).trans hsc1) (by omega) (by omega)

theorem L_fine (hL : LInv N σ G) (hN : N ≤ 100000000) (hi : i + 4 < Ln) (hLn : Ln ≤ 100000) (hsc : σ SCR = scr) (hk : k ≤ 603000) (hs : s ≤ 7207000) (HN : NXT N Ln i k s scr K) :
    Ev 214 (244, [.ref SCR, .ref 0, .ref 368, .ref 377, .ref 378, .int (jI i), v6, v7, v8], [], k, s, MM Ln σ lo db) K := by
  obtain ⟨hC, hR, hA⟩ := hL
  have hG := hA.gd
  obtain ⟨⟨g, oh, ng, nd, nc, h⟩, H, sv, y0, d0, c, len, er⟩ := G
  have hS : Snd (g, oh, ng, nd, nc, h) := hA.1.1
  have hh : h ≤ N := hA.1.2
  have hA4 := hA.mono (show N ≤ N + 4000 by omega)
  obtain ⟨hB, hO, hNG, hAC⟩ := Snd_of hS
  have hBa := Bas_of hB hO
  have hB0 := hB
  obtain ⟨b1, b2, b3, b4, b5, b6, b7, b8, b9⟩ := hB
  have n1 : (jI 1 = jI 0) = False := jI_nz (by decide) (by decide)
  have n2 : (jI 2 = jI 0) = False := jI_nz (by decide) (by decide)
  have n3 : (jI 3 = jI 0) = False := jI_nz (by decide) (by decide)
  have hks : k + 1 ≤ 603072 ∧ s + 6 ≤ 7207017 := by omega
  have hks2 : k + 1 + 0 ≤ 603072 ∧ s + 6 + 0 ≤ 7207017 := by omega
  simp (disch := first | assumption | omega) only [s_214_244, s_214_245, s_214_246, s_214_248, s_214_249, s_214_250, s_214_251, s_214_252, r_214_252, s_214_255, s_214_257, s_214_258, s_214_259, s_214_261, s_214_262, s_214_263, s_214_264, r_214_264, s_214_267, s_214_269, s_214_270, r_214_270, s_214_273, s_214_275, s_214_278, s_214_279, s_214_280, s_214_282, s_214_285, s_214_286, s_214_287, s_214_288, s_214_290, s_214_291, s_214_292, s_214_295, s_214_296, s_214_297, jI_mul, jI_add, jI_tnc, jI_ixT, true_and, and_true, bZ_0, bZ_1, bZ_b, jI_nz, jI_div, jI_rem, jI_mod, Nat.add_zero, bI_if, not_false_iff, if_true, if_false, eq_self, hsc]
  refine w_fine hG hC (fun q => ?_) (fun q σ1 hC1 p1 => ?_)
  · simp (disch := first | assumption | omega) only [s_214_244, s_214_245, s_214_246, s_214_248, s_214_249, s_214_250, s_214_251, s_214_252, r_214_252, s_214_255, s_214_257, s_214_258, s_214_259, s_214_261, s_214_262, s_214_263, s_214_264, r_214_264, s_214_267, s_214_269, s_214_270, r_214_270, s_214_273, s_214_275, s_214_278, s_214_279, s_214_280, s_214_282, s_214_285, s_214_286, s_214_287, s_214_288, s_214_290, s_214_291, s_214_292, s_214_295, s_214_296, s_214_297, jI_mul, jI_add, jI_tnc, jI_ixT, true_and, and_true, bZ_0, bZ_1, bZ_b, jI_nz, jI_div, jI_rem, jI_mod, Nat.add_zero, bI_if, not_false_iff, if_true, if_false, eq_self, hsc]
    have e9 : σ 369 = g := (hR).1
    have e6 : σ 368 6 = jI H.length := (hR).2.1.2.1
    have el : H.length ≤ 8 := (hR).2.1.1
    have e7 : σ 368 7 = jI 0 := (hR).2.2.2.2.1
    rw [MM_MG e9, m_fine (wi := false) e7 e6 el, if_neg q]
    obtain ⟨a1, a2, a3⟩ := RI_code (v := jI 1) hR
    dsimp only at a1 a2 a3
    simp (disch := first | assumption | omega) only [s_214_244, s_214_245, s_214_246, s_214_248, s_214_249, s_214_250, s_214_251, s_214_252, r_214_252, s_214_255, s_214_257, s_214_258, s_214_259, s_214_261, s_214_262, s_214_263, s_214_264, r_214_264, s_214_267, s_214_269, s_214_270, r_214_270, s_214_273, s_214_275, s_214_278, s_214_279, s_214_280, s_214_282, s_214_285, s_214_286, s_214_287, s_214_288, s_214_290, s_214_291, s_214_292, s_214_295, s_214_296, s_214_297, jI_mul, jI_add, jI_tnc, jI_ixT, true_and, and_true, bZ_0, bZ_1, bZ_b, jI_nz, jI_div, jI_rem, jI_mod, Nat.add_zero, bI_if, not_false_iff, if_true, if_false, eq_self, m_thrown, a2, n1, if_true, if_false]
    exact HN _ _ _ _ _ _ _ _ _ ⟨CI_pr hG hC a3, a1, hA4⟩ ((a3 SCR (Or.inr SCR_hi)).trans hsc) (by omega) (by omega)
  · have hR1 := RI_pc hR p1
    have hsc1 : σ1 SCR = scr := (p1 SCR (by have := SCR_hi; omega)).trans hsc
    have hS1 : Snd (gu g 2 (scr (i + 1)), oh, ng, nd, nc, h) := snd_fine hS
    have hA1 : AllG (N + 4000) ((gu g 2 (scr (i + 1)), oh, ng, nd, nc, h), ((g, oh, ng, nd, nc, h) :: H).take 8, sv, y0, d0, c, len, er) := hA.keep (by omega) ⟨hS1, by dsimp only; omega⟩
    simp (disch := first | assumption | omega) only [s_214_244, s_214_245, s_214_246, s_214_248, s_214_249, s_214_250, s_214_251, s_214_252, r_214_252, s_214_255, s_214_257, s_214_258, s_214_259, s_214_261, s_214_262, s_214_263, s_214_264, r_214_264, s_214_267, s_214_269, s_214_270, r_214_270, s_214_273, s_214_275, s_214_278, s_214_279, s_214_280, s_214_282, s_214_285, s_214_286, s_214_287, s_214_288, s_214_290, s_214_291, s_214_292, s_214_295, s_214_296, s_214_297, jI_mul, jI_add, jI_tnc, jI_ixT, true_and, and_true, bZ_0, bZ_1, bZ_b, jI_nz, jI_div, jI_rem, jI_mod, Nat.add_zero, bI_if, not_false_iff, if_true, if_false, eq_self, hsc1]
    have e9 : σ1 369 = g := (hR1).1
    have e6 : σ1 368 6 = jI H.length := (hR1).2.1.2.1
    have el : H.length ≤ 8 := (hR1).2.1.1
    have e7 : σ1 368 7 = jI 0 := (hR1).2.2.2.2.1
    rw [MM_MG e9, m_fine (wi := false) e7 e6 el, if_pos q]
    obtain ⟨a1, a2, a3⟩ := RI_keep (s' := (gu g 2 (scr (i + 1)), oh, ng, nd, nc, h)) (τ := _) hR1 FR.refl
    dsimp only at a1 a2 a3
    simp (disch := first | assumption | omega) only [s_214_244, s_214_245, s_214_246, s_214_248, s_214_249, s_214_250, s_214_251, s_214_252, r_214_252, s_214_255, s_214_257, s_214_258, s_214_259, s_214_261, s_214_262, s_214_263, s_214_264, r_214_264, s_214_267, s_214_269, s_214_270, r_214_270, s_214_273, s_214_275, s_214_278, s_214_279, s_214_280, s_214_282, s_214_285, s_214_286, s_214_287, s_214_288, s_214_290, s_214_291, s_214_292, s_214_295, s_214_296, s_214_297, jI_mul, jI_add, jI_tnc, jI_ixT, true_and, and_true, bZ_0, bZ_1, bZ_b, jI_nz, jI_div, jI_rem, jI_mod, Nat.add_zero, bI_if, not_false_iff, if_true, if_false, eq_self, m_thrown, a2, u2_lo, lgS, if_true, if_false]
    exact HN _ _ _ _ _ _ _ _ _ ⟨CI_pr (AllG.gd hA1) hC1 a3, a1, hA1⟩ ((a3 SCR (Or.inr SCR_hi)).trans hsc1) (by omega) (by omega)

theorem L_gate (hL : LInv N σ G) (hN : N ≤ 100000000) (hi : i + 4 < Ln) (hLn : Ln ≤ 100000) (hsc : σ SCR = scr) (hk : k ≤ 603000) (hs : s ≤ 7207000) (HN : NXT N Ln i k s scr K) :
    Ev 214 (300, [.ref SCR, .ref 0, .ref 368, .ref 377, .ref 378, .int (jI i), v6, v7, v8], [], k, s, MM Ln σ lo db) K := by
  obtain ⟨hC, hR, hA⟩ := hL
  have hG := hA.gd
  obtain ⟨⟨g, oh, ng, nd, nc, h⟩, H, sv, y0, d0, c, len, er⟩ := G
  have hS : Snd (g, oh, ng, nd, nc, h) := hA.1.1
  have hh : h ≤ N := hA.1.2
  have hA4 := hA.mono (show N ≤ N + 4000 by omega)
  obtain ⟨hB, hO, hNG, hAC⟩ := Snd_of hS
  have hBa := Bas_of hB hO
  have hB0 := hB
  obtain ⟨b1, b2, b3, b4, b5, b6, b7, b8, b9⟩ := hB
  have n1 : (jI 1 = jI 0) = False := jI_nz (by decide) (by decide)
  have n2 : (jI 2 = jI 0) = False := jI_nz (by decide) (by decide)
  have n3 : (jI 3 = jI 0) = False := jI_nz (by decide) (by decide)
  have hks : k + 1 ≤ 603072 ∧ s + 6 ≤ 7207017 := by omega
  have hks2 : k + 1 + 0 ≤ 603072 ∧ s + 6 + 0 ≤ 7207017 := by omega
  simp (disch := first | assumption | omega) only [s_214_300, s_214_301, s_214_302, s_214_304, s_214_305, s_214_306, s_214_307, s_214_308, r_214_308, s_214_311, s_214_313, s_214_314, s_214_315, s_214_317, s_214_318, s_214_319, s_214_320, r_214_320, s_214_323, s_214_325, s_214_326, r_214_326, s_214_329, s_214_331, s_214_334, s_214_335, s_214_336, s_214_338, s_214_341, s_214_342, s_214_343, s_214_344, s_214_346, s_214_347, s_214_348, s_214_351, s_214_352, s_214_353, jI_mul, jI_add, jI_tnc, jI_ixT, true_and, and_true, bZ_0, bZ_1, bZ_b, jI_nz, jI_div, jI_rem, jI_mod, Nat.add_zero, bI_if, not_false_iff, if_true, if_false, eq_self, hsc]
  refine w_gate hG hC (fun q => ?_) (fun q q6 σ1 hC1 p1 => ?_) (fun q q6 σ1 hC1 p1 => ?_)
  · skip
    simp (disch := first | assumption | omega) only [s_214_300, s_214_301, s_214_302, s_214_304, s_214_305, s_214_306, s_214_307, s_214_308, r_214_308, s_214_311, s_214_313, s_214_314, s_214_315, s_214_317, s_214_318, s_214_319, s_214_320, r_214_320, s_214_323, s_214_325, s_214_326, r_214_326, s_214_329, s_214_331, s_214_334, s_214_335, s_214_336, s_214_338, s_214_341, s_214_342, s_214_343, s_214_344, s_214_346, s_214_347, s_214_348, s_214_351, s_214_352, s_214_353, jI_mul, jI_add, jI_tnc, jI_ixT, true_and, and_true, bZ_0, bZ_1, bZ_b, jI_nz, jI_div, jI_rem, jI_mod, Nat.add_zero, bI_if, not_false_iff, if_true, if_false, eq_self, hsc]
    have e9 : σ 369 = g := (hR).1
    have e6 : σ 368 6 = jI H.length := (hR).2.1.2.1
    have el : H.length ≤ 8 := (hR).2.1.1
    have e7 : σ 368 7 = jI 0 := (hR).2.2.2.2.1
    rw [MM_MG e9]
    refine m_gate b1 b5 (wi := false) e7 e6 el (fun _ => ?_) (fun q' => absurd q' q) (fun q' => absurd q' q)
    obtain ⟨a1, a2, a3⟩ := RI_code (v := jI 1) hR
    dsimp only at a1 a2 a3
    simp (disch := first | assumption | omega) only [s_214_300, s_214_301, s_214_302, s_214_304, s_214_305, s_214_306, s_214_307, s_214_308, r_214_308, s_214_311, s_214_313, s_214_314, s_214_315, s_214_317, s_214_318, s_214_319, s_214_320, r_214_320, s_214_323, s_214_325, s_214_326, r_214_326, s_214_329, s_214_331, s_214_334, s_214_335, s_214_336, s_214_338, s_214_341, s_214_342, s_214_343, s_214_344, s_214_346, s_214_347, s_214_348, s_214_351, s_214_352, s_214_353, jI_mul, jI_add, jI_tnc, jI_ixT, true_and, and_true, bZ_0, bZ_1, bZ_b, jI_nz, jI_div, jI_rem, jI_mod, Nat.add_zero, bI_if, not_false_iff, if_true, if_false, eq_self, m_thrown, a2, n1, if_true, if_false]
    exact HN _ _ _ _ _ _ _ _ _ ⟨CI_pr hG hC a3, a1, hA4⟩ ((a3 SCR (Or.inr SCR_hi)).trans hsc) (by omega) (by omega)
  · skip
    have hR1 := RI_pc hR p1
    have hsc1 : σ1 SCR = scr := (p1 SCR (by have := SCR_hi; omega)).trans hsc
    simp (disch := first | assumption | omega) only [s_214_300, s_214_301, s_214_302, s_214_304, s_214_305, s_214_306, s_214_307, s_214_308, r_214_308, s_214_311, s_214_313, s_214_314, s_214_315, s_214_317, s_214_318, s_214_319, s_214_320, r_214_320, s_214_323, s_214_325, s_214_326, r_214_326, s_214_329, s_214_331, s_214_334, s_214_335, s_214_336, s_214_338, s_214_341, s_214_342, s_214_343, s_214_344, s_214_346, s_214_347, s_214_348, s_214_351, s_214_352, s_214_353, jI_mul, jI_add, jI_tnc, jI_ixT, true_and, and_true, bZ_0, bZ_1, bZ_b, jI_nz, jI_div, jI_rem, jI_mod, Nat.add_zero, bI_if, not_false_iff, if_true, if_false, eq_self, hsc1]
    have e9 : σ1 369 = g := (hR1).1
    have e6 : σ1 368 6 = jI H.length := (hR1).2.1.2.1
    have el : H.length ≤ 8 := (hR1).2.1.1
    have e7 : σ1 368 7 = jI 0 := (hR1).2.2.2.2.1
    rw [MM_MG e9]
    refine m_gate b1 b5 (wi := false) e7 e6 el (fun q' => absurd q q') (fun _ _ => ?_) (fun _ q7 => absurd q7 (by omega))
    have hA5 : AllG (N + 4000) ((g, oh, ng, nd, nc, h), H, sv, jI 1, jI 6, c, len, er) := hA4
    obtain ⟨a1, a2, a3⟩ := RI_ref (p := jI 2) (w := jI 1) (d := jI 6) hR1
    unfold RFx at a1 a2 a3
    dsimp only at a1 a2 a3
    simp (disch := first | assumption | omega) only [s_214_300, s_214_301, s_214_302, s_214_304, s_214_305, s_214_306, s_214_307, s_214_308, r_214_308, s_214_311, s_214_313, s_214_314, s_214_315, s_214_317, s_214_318, s_214_319, s_214_320, r_214_320, s_214_323, s_214_325, s_214_326, r_214_326, s_214_329, s_214_331, s_214_334, s_214_335, s_214_336, s_214_338, s_214_341, s_214_342, s_214_343, s_214_344, s_214_346, s_214_347, s_214_348, s_214_351, s_214_352, s_214_353, jI_mul, jI_add, jI_tnc, jI_ixT, true_and, and_true, bZ_0, bZ_1, bZ_b, jI_nz, jI_div, jI_rem, jI_mod, Nat.add_zero, bI_if, not_false_iff, if_true, if_false, eq_self, m_thrown, a2, n2, if_true, if_false]
    exact HN _ _ _ _ _ _ _ _ _ ⟨CI_pr (AllG.gd hA5) hC1 a3, a1, hA5⟩ ((a3 SCR (Or.inr SCR_hi)).trans hsc1) (by omega) (by omega)
  · skip
    have hR1 := RI_pc hR p1
    have hsc1 : σ1 SCR = scr := (p1 SCR (by have := SCR_hi; omega)).trans hsc
    have hA1 : AllG (N + 4000) ((gateS g ng (scr (i + 1)), ohZ oh ng, ng + 1, nd, nc, h), ((g, oh, ng, nd, nc, h) :: H).take 8, sv, y0, d0, c, len, er) := hA.keep (by omega) ⟨snd_gate hS q6 q, by dsimp only; omega⟩
    simp (disch := first | assumption | omega) only [s_214_300, s_214_301, s_214_302, s_214_304, s_214_305, s_214_306, s_214_307, s_214_308, r_214_308, s_214_311, s_214_313, s_214_314, s_214_315, s_214_317, s_214_318, s_214_319, s_214_320, r_214_320, s_214_323, s_214_325, s_214_326, r_214_326, s_214_329, s_214_331, s_214_334, s_214_335, s_214_336, s_214_338, s_214_341, s_214_342, s_214_343, s_214_344, s_214_346, s_214_347, s_214_348, s_214_351, s_214_352, s_214_353, jI_mul, jI_add, jI_tnc, jI_ixT, true_and, and_true, bZ_0, bZ_1, bZ_b, jI_nz, jI_div, jI_rem, jI_mod, Nat.add_zero, bI_if, not_false_iff, if_true, if_false, eq_self, hsc1]
    have e9 : σ1 369 = g := (hR1).1
    have e6 : σ1 368 6 = jI H.length := (hR1).2.1.2.1
    have el : H.length ≤ 8 := (hR1).2.1.1
    have e7 : σ1 368 7 = jI 0 := (hR1).2.2.2.2.1
    rw [MM_MG e9]
    refine m_gate b1 b5 (wi := false) e7 e6 el (fun q' => absurd q q') (fun _ q7 => absurd q7 (by omega)) (fun _ _ => ?_)
    obtain ⟨a1, a2, a3⟩ := RI_keep (s' := (gateS g ng (scr (i + 1)), ohZ oh ng, ng + 1, nd, nc, h)) (τ := _) hR1 FR.refl
    dsimp only at a1 a2 a3
    simp (disch := first | assumption | omega) only [s_214_300, s_214_301, s_214_302, s_214_304, s_214_305, s_214_306, s_214_307, s_214_308, r_214_308, s_214_311, s_214_313, s_214_314, s_214_315, s_214_317, s_214_318, s_214_319, s_214_320, r_214_320, s_214_323, s_214_325, s_214_326, r_214_326, s_214_329, s_214_331, s_214_334, s_214_335, s_214_336, s_214_338, s_214_341, s_214_342, s_214_343, s_214_344, s_214_346, s_214_347, s_214_348, s_214_351, s_214_352, s_214_353, jI_mul, jI_add, jI_tnc, jI_ixT, true_and, and_true, bZ_0, bZ_1, bZ_b, jI_nz, jI_div, jI_rem, jI_mod, Nat.add_zero, bI_if, not_false_iff, if_true, if_false, eq_self, m_thrown, a2, u2_lo, lgS, if_true, if_false]
    exact HN _ _ _ _ _ _ _ _ _ ⟨CI_pr (AllG.gd hA1) hC1 a3, a1, hA1⟩ ((a3 SCR (Or.inr SCR_hi)).trans hsc1) (by omega) (by omega)

theorem L_garden (hL : LInv N σ G) (hN : N ≤ 100000000) (hi : i + 4 < Ln) (hLn : Ln ≤ 100000) (hsc : σ SCR = scr) (hk : k ≤ 603000) (hs : s ≤ 7207000) (HN : NXT N Ln i k s scr K) :
    Ev 214 (356, [.ref SCR, .ref 0, .ref 368, .ref 377, .ref 378, .int (jI i), v6, v7, v8], [], k, s, MM Ln σ lo db) K := by
  obtain ⟨hC, hR, hA⟩ := hL
  have hG := hA.gd
  obtain ⟨⟨g, oh, ng, nd, nc, h⟩, H, sv, y0, d0, c, len, er⟩ := G
  have hS : Snd (g, oh, ng, nd, nc, h) := hA.1.1
  have hh : h ≤ N := hA.1.2
  have hA4 := hA.mono (show N ≤ N + 4000 by omega)
  obtain ⟨hB, hO, hNG, hAC⟩ := Snd_of hS
  have hBa := Bas_of hB hO
  have hB0 := hB
  obtain ⟨b1, b2, b3, b4, b5, b6, b7, b8, b9⟩ := hB
  have n1 : (jI 1 = jI 0) = False := jI_nz (by decide) (by decide)
  have n2 : (jI 2 = jI 0) = False := jI_nz (by decide) (by decide)
  have n3 : (jI 3 = jI 0) = False := jI_nz (by decide) (by decide)
  have hks : k + 1 ≤ 603072 ∧ s + 6 ≤ 7207017 := by omega
  have hks2 : k + 1 + 0 ≤ 603072 ∧ s + 6 + 0 ≤ 7207017 := by omega
  simp (disch := first | assumption | omega) only [s_214_356, s_214_357, s_214_358, s_214_360, s_214_361, s_214_362, s_214_363, s_214_364, s_214_366, s_214_367, s_214_368, s_214_369, s_214_370, s_214_372, s_214_373, s_214_374, s_214_375, s_214_376, s_214_378, s_214_379, s_214_380, s_214_381, s_214_382, r_214_382, s_214_385, s_214_387, s_214_388, s_214_389, s_214_391, s_214_392, s_214_393, s_214_394, s_214_395, s_214_397, s_214_398, s_214_399, s_214_400, s_214_401, s_214_403, s_214_404, s_214_405, s_214_406, s_214_407, s_214_409, s_214_410, s_214_411, s_214_412, r_214_412, s_214_415, s_214_417, s_214_418, r_214_418, s_214_421, s_214_423, s_214_426, s_214_427, s_214_428, s_214_430, s_214_433, s_214_434, s_214_435, s_214_436, s_214_438, s_214_439, s_214_440, s_214_443, s_214_444, s_214_445, jI_mul, jI_add, jI_tnc, jI_ixT, true_and, and_true, bZ_0, bZ_1, bZ_b, jI_nz, jI_div, jI_rem, jI_mod, Nat.add_zero, bI_if, not_false_iff, if_true, if_false, eq_self, hsc]
  refine w_garden hG hC (fun q => ?_) (fun q q1 => ?_) (fun q q1 q6 σ1 hC1 p1 => ?_) (fun gt hgt ev q1 q6 σ1 hC1 p1 => ?_)
  · skip
    simp (disch := first | assumption | omega) only [s_214_356, s_214_357, s_214_358, s_214_360, s_214_361, s_214_362, s_214_363, s_214_364, s_214_366, s_214_367, s_214_368, s_214_369, s_214_370, s_214_372, s_214_373, s_214_374, s_214_375, s_214_376, s_214_378, s_214_379, s_214_380, s_214_381, s_214_382, r_214_382, s_214_385, s_214_387, s_214_388, s_214_389, s_214_391, s_214_392, s_214_393, s_214_394, s_214_395, s_214_397, s_214_398, s_214_399, s_214_400, s_214_401, s_214_403, s_214_404, s_214_405, s_214_406, s_214_407, s_214_409, s_214_410, s_214_411, s_214_412, r_214_412, s_214_415, s_214_417, s_214_418, r_214_418, s_214_421, s_214_423, s_214_426, s_214_427, s_214_428, s_214_430, s_214_433, s_214_434, s_214_435, s_214_436, s_214_438, s_214_439, s_214_440, s_214_443, s_214_444, s_214_445, jI_mul, jI_add, jI_tnc, jI_ixT, true_and, and_true, bZ_0, bZ_1, bZ_b, jI_nz, jI_div, jI_rem, jI_mod, Nat.add_zero, bI_if, not_false_iff, if_true, if_false, eq_self, hsc]
    have e9 : σ 369 = g := (hR).1
    have e6 : σ 368 6 = jI H.length := (hR).2.1.2.1
    have el : H.length ≤ 8 := (hR).2.1.1
    have e7 : σ 368 7 = jI 0 := (hR).2.2.2.2.1
    rw [MM_MG e9]
    refine m_garden b1 b5 b2 b6 (wi := false) e7 e6 el (fun _ => ?_) (fun q' => absurd q' q) (fun q' => absurd q' q) (fun gt hgt ev => absurd (hs_mk ev hgt (by omega)) q)
    obtain ⟨a1, a2, a3⟩ := RI_code (v := jI 1) hR
    dsimp only at a1 a2 a3
    simp (disch := first | assumption | omega) only [s_214_356, s_214_357, s_214_358, s_214_360, s_214_361, s_214_362, s_214_363, s_214_364, s_214_366, s_214_367, s_214_368, s_214_369, s_214_370, s_214_372, s_214_373, s_214_374, s_214_375, s_214_376, s_214_378, s_214_379, s_214_380, s_214_381, s_214_382, r_214_382, s_214_385, s_214_387, s_214_388, s_214_389, s_214_391, s_214_392, s_214_393, s_214_394, s_214_395, s_214_397, s_214_398, s_214_399, s_214_400, s_214_401, s_214_403, s_214_404, s_214_405, s_214_406, s_214_407, s_214_409, s_214_410, s_214_411, s_214_412, r_214_412, s_214_415, s_214_417, s_214_418, r_214_418, s_214_421, s_214_423, s_214_426, s_214_427, s_214_428, s_214_430, s_214_433, s_214_434, s_214_435, s_214_436, s_214_438, s_214_439, s_214_440, s_214_443, s_214_444, s_214_445, jI_mul, jI_add, jI_tnc, jI_ixT, true_and, and_true, bZ_0, bZ_1, bZ_b, jI_nz, jI_div, jI_rem, jI_mod, Nat.add_zero, bI_if, not_false_iff, if_true, if_false, eq_self, m_thrown, a2, n1, if_true, if_false]
    exact HN _ _ _ _ _ _ _ _ _ ⟨CI_pr hG hC a3, a1, hA4⟩ ((a3 SCR (Or.inr SCR_hi)).trans hsc) (by omega) (by omega)
  · skip
    simp (disch := first | assumption | omega) only [s_214_356, s_214_357, s_214_358, s_214_360, s_214_361, s_214_362, s_214_363, s_214_364, s_214_366, s_214_367, s_214_368, s_214_369, s_214_370, s_214_372, s_214_373, s_214_374, s_214_375, s_214_376, s_214_378, s_214_379, s_214_380, s_214_381, s_214_382, r_214_382, s_214_385, s_214_387, s_214_388, s_214_389, s_214_391, s_214_392, s_214_393, s_214_394, s_214_395, s_214_397, s_214_398, s_214_399, s_214_400, s_214_401, s_214_403, s_214_404, s_214_405, s_214_406, s_214_407, s_214_409, s_214_410, s_214_411, s_214_412, r_214_412, s_214_415, s_214_417, s_214_418, r_214_418, s_214_421, s_214_423, s_214_426, s_214_427, s_214_428, s_214_430, s_214_433, s_214_434, s_214_435, s_214_436, s_214_438, s_214_439, s_214_440, s_214_443, s_214_444, s_214_445, jI_mul, jI_add, jI_tnc, jI_ixT, true_and, and_true, bZ_0, bZ_1, bZ_b, jI_nz, jI_div, jI_rem, jI_mod, Nat.add_zero, bI_if, not_false_iff, if_true, if_false, eq_self, hsc]
    have e9 : σ 369 = g := (hR).1
    have e6 : σ 368 6 = jI H.length := (hR).2.1.2.1
    have el : H.length ≤ 8 := (hR).2.1.1
    have e7 : σ 368 7 = jI 0 := (hR).2.2.2.2.1
    rw [MM_MG e9]
    refine m_garden b1 b5 b2 b6 (wi := false) e7 e6 el (fun q' => absurd q q') (fun _ _ => ?_) (fun _ q' => absurd q' q1) (fun _ _ _ q' => absurd q' q1)
    obtain ⟨a1, a2, a3⟩ := RI_code (v := jI 2) hR
    dsimp only at a1 a2 a3
    simp (disch := first | assumption | omega) only [s_214_356, s_214_357, s_214_358, s_214_360, s_214_361, s_214_362, s_214_363, s_214_364, s_214_366, s_214_367, s_214_368, s_214_369, s_214_370, s_214_372, s_214_373, s_214_374, s_214_375, s_214_376, s_214_378, s_214_379, s_214_380, s_214_381, s_214_382, r_214_382, s_214_385, s_214_387, s_214_388, s_214_389, s_214_391, s_214_392, s_214_393, s_214_394, s_214_395, s_214_397, s_214_398, s_214_399, s_214_400, s_214_401, s_214_403, s_214_404, s_214_405, s_214_406, s_214_407, s_214_409, s_214_410, s_214_411, s_214_412, r_214_412, s_214_415, s_214_417, s_214_418, r_214_418, s_214_421, s_214_423, s_214_426, s_214_427, s_214_428, s_214_430, s_214_433, s_214_434, s_214_435, s_214_436, s_214_438, s_214_439, s_214_440, s_214_443, s_214_444, s_214_445, jI_mul, jI_add, jI_tnc, jI_ixT, true_and, and_true, bZ_0, bZ_1, bZ_b, jI_nz, jI_div, jI_rem, jI_mod, Nat.add_zero, bI_if, not_false_iff, if_true, if_false, eq_self, m_thrown, a2, n2, if_true, if_false]
    exact HN _ _ _ _ _ _ _ _ _ ⟨CI_pr hG hC a3, a1, hA4⟩ ((a3 SCR (Or.inr SCR_hi)).trans hsc) (by omega) (by omega)
  · skip
    have hR1 := RI_pc hR p1
    have hsc1 : σ1 SCR = scr := (p1 SCR (by have := SCR_hi; omega)).trans hsc
    simp (disch := first | assumption | omega) only [s_214_356, s_214_357, s_214_358, s_214_360, s_214_361, s_214_362, s_214_363, s_214_364, s_214_366, s_214_367, s_214_368, s_214_369, s_214_370, s_214_372, s_214_373, s_214_374, s_214_375, s_214_376, s_214_378, s_214_379, s_214_380, s_214_381, s_214_382, r_214_382, s_214_385, s_214_387, s_214_388, s_214_389, s_214_391, s_214_392, s_214_393, s_214_394, s_214_395, s_214_397, s_214_398, s_214_399, s_214_400, s_214_401, s_214_403, s_214_404, s_214_405, s_214_406, s_214_407, s_214_409, s_214_410, s_214_411, s_214_412, r_214_412, s_214_415, s_214_417, s_214_418, r_214_418, s_214_421, s_214_423, s_214_426, s_214_427, s_214_428, s_214_430, s_214_433, s_214_434, s_214_435, s_214_436, s_214_438, s_214_439, s_214_440, s_214_443, s_214_444, s_214_445, jI_mul, jI_add, jI_tnc, jI_ixT, true_and, and_true, bZ_0, bZ_1, bZ_b, jI_nz, jI_div, jI_rem, jI_mod, Nat.add_zero, bI_if, not_false_iff, if_true, if_false, eq_self, hsc1]
    have e9 : σ1 369 = g := (hR1).1
    have e6 : σ1 368 6 = jI H.length := (hR1).2.1.2.1
    have el : H.length ≤ 8 := (hR1).2.1.1
    have e7 : σ1 368 7 = jI 0 := (hR1).2.2.2.2.1
    rw [MM_MG e9]
    refine m_garden b1 b5 b2 b6 (wi := false) e7 e6 el (fun q' => absurd q q') (fun _ q' => absurd q1 q') (fun _ _ _ => ?_) (fun _ _ _ _ q' => absurd q' (by omega))
    have hA5 : AllG (N + 4000) ((g, oh, ng, nd, nc, h), H, sv, jI 1, jI 12, c, len, er) := hA4
    obtain ⟨a1, a2, a3⟩ := RI_ref (p := jI 3) (w := jI 1) (d := jI 12) hR1
    unfold RFx at a1 a2 a3
    dsimp only at a1 a2 a3
    simp (disch := first | assumption | omega) only [s_214_356, s_214_357, s_214_358, s_214_360, s_214_361, s_214_362, s_214_363, s_214_364, s_214_366, s_214_367, s_214_368, s_214_369, s_214_370, s_214_372, s_214_373, s_214_374, s_214_375, s_214_376, s_214_378, s_214_379, s_214_380, s_214_381, s_214_382, r_214_382, s_214_385, s_214_387, s_214_388, s_214_389, s_214_391, s_214_392, s_214_393, s_214_394, s_214_395, s_214_397, s_214_398, s_214_399, s_214_400, s_214_401, s_214_403, s_214_404, s_214_405, s_214_406, s_214_407, s_214_409, s_214_410, s_214_411, s_214_412, r_214_412, s_214_415, s_214_417, s_214_418, r_214_418, s_214_421, s_214_423, s_214_426, s_214_427, s_214_428, s_214_430, s_214_433, s_214_434, s_214_435, s_214_436, s_214_438, s_214_439, s_214_440, s_214_443, s_214_444, s_214_445, jI_mul, jI_add, jI_tnc, jI_ixT, true_and, and_true, bZ_0, bZ_1, bZ_b, jI_nz, jI_div, jI_rem, jI_mod, Nat.add_zero, bI_if, not_false_iff, if_true, if_false, eq_self, m_thrown, a2, n3, if_true, if_false]
    exact HN _ _ _ _ _ _ _ _ _ ⟨CI_pr (AllG.gd hA5) hC1 a3, a1, hA5⟩ ((a3 SCR (Or.inr SCR_hi)).trans hsc1) (by omega) (by omega)
  · skip
    have hR1 := RI_pc hR p1
    have hsc1 : σ1 SCR = scr := (p1 SCR (by have := SCR_hi; omega)).trans hsc
    have hA1 : AllG (N + 4000) ((garS g nd gt (scr (i + 2)) (scr (i + 3)) (scr (i + 4)), oh, ng, nd + 1, nc, h), ((g, oh, ng, nd, nc, h) :: H).take 8, sv, y0, d0, c, len, er) := hA.keep (by omega) ⟨snd_garden hS q6 hgt q1.1 q1.2.1, by dsimp only; omega⟩
    simp (disch := first | assumption | omega) only [s_214_356, s_214_357, s_214_358, s_214_360, s_214_361, s_214_362, s_214_363, s_214_364, s_214_366, s_214_367, s_214_368, s_214_369, s_214_370, s_214_372, s_214_373, s_214_374, s_214_375, s_214_376, s_214_378, s_214_379, s_214_380, s_214_381, s_214_382, r_214_382, s_214_385, s_214_387, s_214_388, s_214_389, s_214_391, s_214_392, s_214_393, s_214_394, s_214_395, s_214_397, s_214_398, s_214_399, s_214_400, s_214_401, s_214_403, s_214_404, s_214_405, s_214_406, s_214_407, s_214_409, s_214_410, s_214_411, s_214_412, r_214_412, s_214_415, s_214_417, s_214_418, r_214_418, s_214_421, s_214_423, s_214_426, s_214_427, s_214_428, s_214_430, s_214_433, s_214_434, s_214_435, s_214_436, s_214_438, s_214_439, s_214_440, s_214_443, s_214_444, s_214_445, jI_mul, jI_add, jI_tnc, jI_ixT, true_and, and_true, bZ_0, bZ_1, bZ_b, jI_nz, jI_div, jI_rem, jI_mod, Nat.add_zero, bI_if, not_false_iff, if_true, if_false, eq_self, hsc1]
    have e9 : σ1 369 = g := (hR1).1
    have e6 : σ1 368 6 = jI H.length := (hR1).2.1.2.1
    have el : H.length ≤ 8 := (hR1).2.1.1
    have e7 : σ1 368 7 = jI 0 := (hR1).2.2.2.2.1
    rw [MM_MG e9]
    refine m_garden b1 b5 b2 b6 (wi := false) e7 e6 el (fun q' => absurd (hs_mk ev hgt (by omega)) q') (fun _ q' => absurd q1 q') (fun _ _ q' => absurd q' (by omega)) (fun gt' hgt' ev' _ _ => ?_)
    obtain rfl : gt = gt' := jI_c ev ev' (by omega) (by omega)
    obtain ⟨a1, a2, a3⟩ := RI_keep (s' := (garS g nd gt (scr (i + 2)) (scr (i + 3)) (scr (i + 4)), oh, ng, nd + 1, nc, h)) (τ := _) hR1 FR.refl
    dsimp only at a1 a2 a3
    simp (disch := first | assumption | omega) only [s_214_356, s_214_357, s_214_358, s_214_360, s_214_361, s_214_362, s_214_363, s_214_364, s_214_366, s_214_367, s_214_368, s_214_369, s_214_370, s_214_372, s_214_373, s_214_374, s_214_375, s_214_376, s_214_378, s_214_379, s_214_380, s_214_381, s_214_382, r_214_382, s_214_385, s_214_387, s_214_388, s_214_389, s_214_391, s_214_392, s_214_393, s_214_394, s_214_395, s_214_397, s_214_398, s_214_399, s_214_400, s_214_401, s_214_403, s_214_404, s_214_405, s_214_406, s_214_407, s_214_409, s_214_410, s_214_411, s_214_412, r_214_412, s_214_415, s_214_417, s_214_418, r_214_418, s_214_421, s_214_423, s_214_426, s_214_427, s_214_428, s_214_430, s_214_433, s_214_434, s_214_435, s_214_436, s_214_438, s_214_439, s_214_440, s_214_443, s_214_444, s_214_445, jI_mul, jI_add, jI_tnc, jI_ixT, true_and, and_true, bZ_0, bZ_1, bZ_b, jI_nz, jI_div, jI_rem, jI_mod, Nat.add_zero, bI_if, not_false_iff, if_true, if_false, eq_self, m_thrown, a2, u2_lo, lgS, if_true, if_false]
    exact HN _ _ _ _ _ _ _ _ _ ⟨CI_pr (AllG.gd hA1) hC1 a3, a1, hA1⟩ ((a3 SCR (Or.inr SCR_hi)).trans hsc1) (by omega) (by omega)

theorem L_open (hL : LInv N σ G) (hN : N ≤ 100000000) (hi : i + 4 < Ln) (hLn : Ln ≤ 100000) (hsc : σ SCR = scr) (hk : k ≤ 603000) (hs : s ≤ 7207000) (HN : NXT N Ln i k s scr K) :
    Ev 214 (448, [.ref SCR, .ref 0, .ref 368, .ref 377, .ref 378, .int (jI i), v6, v7, v8], [], k, s, MM Ln σ lo db) K := by
  obtain ⟨hC, hR, hA⟩ := hL
  have hG := hA.gd
  obtain ⟨⟨g, oh, ng, nd, nc, h⟩, H, sv, y0, d0, c, len, er⟩ := G
  have hS : Snd (g, oh, ng, nd, nc, h) := hA.1.1
  have hh : h ≤ N := hA.1.2
  have hA4 := hA.mono (show N ≤ N + 4000 by omega)
  obtain ⟨hB, hO, hNG, hAC⟩ := Snd_of hS
  have hBa := Bas_of hB hO
  have hB0 := hB
  obtain ⟨b1, b2, b3, b4, b5, b6, b7, b8, b9⟩ := hB
  have n1 : (jI 1 = jI 0) = False := jI_nz (by decide) (by decide)
  have n2 : (jI 2 = jI 0) = False := jI_nz (by decide) (by decide)
  have n3 : (jI 3 = jI 0) = False := jI_nz (by decide) (by decide)
  have hks : k + 1 ≤ 603072 ∧ s + 6 ≤ 7207017 := by omega
  have hks2 : k + 1 + 0 ≤ 603072 ∧ s + 6 + 0 ≤ 7207017 := by omega
  simp (disch := first | assumption | omega) only [s_214_448, s_214_449, s_214_450, s_214_452, s_214_453, s_214_454, s_214_455, s_214_456, s_214_458, s_214_459, s_214_460, s_214_461, s_214_462, s_214_464, s_214_465, s_214_466, s_214_467, s_214_468, s_214_470, s_214_471, s_214_472, s_214_473, s_214_476, s_214_477, s_214_480, s_214_481, s_214_482, r_214_482, s_214_485, s_214_487, s_214_488, s_214_489, s_214_491, s_214_492, s_214_493, s_214_494, s_214_495, s_214_497, s_214_498, s_214_499, s_214_500, s_214_501, s_214_503, s_214_504, s_214_505, s_214_506, s_214_507, s_214_509, s_214_510, s_214_511, s_214_512, s_214_515, s_214_516, s_214_519, s_214_520, r_214_520, s_214_523, s_214_525, s_214_526, r_214_526, s_214_529, s_214_531, s_214_534, s_214_535, s_214_536, s_214_538, s_214_541, s_214_542, s_214_543, s_214_544, s_214_546, s_214_547, s_214_548, s_214_551, s_214_552, s_214_553, jI_mul, jI_add, jI_tnc, jI_ixT, true_and, and_true, bZ_0, bZ_1, bZ_b, jI_nz, jI_div, jI_rem, jI_mod, Nat.add_zero, bI_if, not_false_iff, if_true, if_false, eq_self, hsc]
  by_cases z : scr (i + 4) = jI 0
  · rw [if_pos z]
    refine w_open (p := false) hG hC (fun q => ?_) (fun q q1 => ?_) (fun a b n hk ek ea eb hn σ1 hC1 p1 => ?_)
    · skip
      simp (disch := first | assumption | omega) only [s_214_448, s_214_449, s_214_450, s_214_452, s_214_453, s_214_454, s_214_455, s_214_456, s_214_458, s_214_459, s_214_460, s_214_461, s_214_462, s_214_464, s_214_465, s_214_466, s_214_467, s_214_468, s_214_470, s_214_471, s_214_472, s_214_473, s_214_476, s_214_477, s_214_480, s_214_481, s_214_482, r_214_482, s_214_485, s_214_487, s_214_488, s_214_489, s_214_491, s_214_492, s_214_493, s_214_494, s_214_495, s_214_497, s_214_498, s_214_499, s_214_500, s_214_501, s_214_503, s_214_504, s_214_505, s_214_506, s_214_507, s_214_509, s_214_510, s_214_511, s_214_512, s_214_515, s_214_516, s_214_519, s_214_520, r_214_520, s_214_523, s_214_525, s_214_526, r_214_526, s_214_529, s_214_531, s_214_534, s_214_535, s_214_536, s_214_538, s_214_541, s_214_542, s_214_543, s_214_544, s_214_546, s_214_547, s_214_548, s_214_551, s_214_552, s_214_553, jI_mul, jI_add, jI_tnc, jI_ixT, true_and, and_true, bZ_0, bZ_1, bZ_b, jI_nz, jI_div, jI_rem, jI_mod, Nat.add_zero, bI_if, not_false_iff, if_true, if_false, eq_self, hsc]
      have e9 : σ 369 = g := (hR).1
      have e6 : σ 368 6 = jI H.length := (hR).2.1.2.1
      have el : H.length ≤ 8 := (hR).2.1.1
      have e7 : σ 368 7 = jI 0 := (hR).2.2.2.2.1
      rw [if_pos z, MM_MG e9]
      refine m_open (p := false) b1 b5 hO (wi := false) e7 e6 el (fun _ => ?_) (fun q' => absurd q' q) (fun a b n hk ek => absurd (hs_mk ek hk (by omega)) q)
      obtain ⟨a1, a2, a3⟩ := RI_code (v := jI 1) hR
      dsimp only at a1 a2 a3
      simp (disch := first | assumption | omega) only [s_214_448, s_214_449, s_214_450, s_214_452, s_214_453, s_214_454, s_214_455, s_214_456, s_214_458, s_214_459, s_214_460, s_214_461, s_214_462, s_214_464, s_214_465, s_214_466, s_214_467, s_214_468, s_214_470, s_214_471, s_214_472, s_214_473, s_214_476, s_214_477, s_214_480, s_214_481, s_214_482, r_214_482, s_214_485, s_214_487, s_214_488, s_214_489, s_214_491, s_214_492, s_214_493, s_214_494, s_214_495, s_214_497, s_214_498, s_214_499, s_214_500, s_214_501, s_214_503, s_214_504, s_214_505, s_214_506, s_214_507, s_214_509, s_214_510, s_214_511, s_214_512, s_214_515, s_214_516, s_214_519, s_214_520, r_214_520, s_214_523, s_214_525, s_214_526, r_214_526, s_214_529, s_214_531, s_214_534, s_214_535, s_214_536, s_214_538, s_214_541, s_214_542, s_214_543, s_214_544, s_214_546, s_214_547, s_214_548, s_214_551, s_214_552, s_214_553, jI_mul, jI_add, jI_tnc, jI_ixT, true_and, and_true, bZ_0, bZ_1, bZ_b, jI_nz, jI_div, jI_rem, jI_mod, Nat.add_zero, bI_if, not_false_iff, if_true, if_false, eq_self, m_thrown, a2, n1, if_true, if_false]
      exact HN _ _ _ _ _ _ _ _ _ ⟨CI_pr hG hC a3, a1, hA4⟩ ((a3 SCR (Or.inr SCR_hi)).trans hsc) (by omega) (by omega)
    · skip
      simp (disch := first | assumption | omega) only [s_214_448, s_214_449, s_214_450, s_214_452, s_214_453, s_214_454, s_214_455, s_214_456, s_214_458, s_214_459, s_214_460, s_214_461, s_214_462, s_214_464, s_214_465, s_214_466, s_214_467, s_214_468, s_214_470, s_214_471, s_214_472, s_214_473, s_214_476, s_214_477, s_214_480, s_214_481, s_214_482, r_214_482, s_214_485, s_214_487, s_214_488, s_214_489, s_214_491, s_214_492, s_214_493, s_214_494, s_214_495, s_214_497, s_214_498, s_214_499, s_214_500, s_214_501, s_214_503, s_214_504, s_214_505, s_214_506, s_214_507, s_214_509, s_214_510, s_214_511, s_214_512, s_214_515, s_214_516, s_214_519, s_214_520, r_214_520, s_214_523, s_214_525, s_214_526, r_214_526, s_214_529, s_214_531, s_214_534, s_214_535, s_214_536, s_214_538, s_214_541, s_214_542, s_214_543, s_214_544, s_214_546, s_214_547, s_214_548, s_214_551, s_214_552, s_214_553, jI_mul, jI_add, jI_tnc, jI_ixT, true_and, and_true, bZ_0, bZ_1, bZ_b, jI_nz, jI_div, jI_rem, jI_mod, Nat.add_zero, bI_if, not_false_iff, if_true, if_false, eq_self, hsc]
      have e9 : σ 369 = g := (hR).1
      have e6 : σ 368 6 = jI H.length := (hR).2.1.2.1
      have el : H.length ≤ 8 := (hR).2.1.1
      have e7 : σ 368 7 = jI 0 := (hR).2.2.2.2.1
      rw [if_pos z, MM_MG e9]
      refine m_open (p := false) b1 b5 hO (wi := false) e7 e6 el (fun q' => absurd q q') (fun _ _ => ?_) (fun a b n hk ek ea eb hn => absurd (area_mk ea eb hn) q1)
      obtain ⟨a1, a2, a3⟩ := RI_code (v := jI 2) hR
      dsimp only at a1 a2 a3
      simp (disch := first | assumption | omega) only [s_214_448, s_214_449, s_214_450, s_214_452, s_214_453, s_214_454, s_214_455, s_214_456, s_214_458, s_214_459, s_214_460, s_214_461, s_214_462, s_214_464, s_214_465, s_214_466, s_214_467, s_214_468, s_214_470, s_214_471, s_214_472, s_214_473, s_214_476, s_214_477, s_214_480, s_214_481, s_214_482, r_214_482, s_214_485, s_214_487, s_214_488, s_214_489, s_214_491, s_214_492, s_214_493, s_214_494, s_214_495, s_214_497, s_214_498, s_214_499, s_214_500, s_214_501, s_214_503, s_214_504, s_214_505, s_214_506, s_214_507, s_214_509, s_214_510, s_214_511, s_214_512, s_214_515, s_214_516, s_214_519, s_214_520, r_214_520, s_214_523, s_214_525, s_214_526, r_214_526, s_214_529, s_214_531, s_214_534, s_214_535, s_214_536, s_214_538, s_214_541, s_214_542, s_214_543, s_214_544, s_214_546, s_214_547, s_214_548, s_214_551, s_214_552, s_214_553, jI_mul, jI_add, jI_tnc, jI_ixT, true_and, and_true, bZ_0, bZ_1, bZ_b, jI_nz, jI_div, jI_rem, jI_mod, Nat.add_zero, bI_if, not_false_iff, if_true, if_false, eq_self, m_thrown, a2, n2, if_true, if_false]
      exact HN _ _ _ _ _ _ _ _ _ ⟨CI_pr hG hC a3, a1, hA4⟩ ((a3 SCR (Or.inr SCR_hi)).trans hsc) (by omega) (by omega)
    · skip
      have hR1 := RI_pc hR p1
      have hsc1 : σ1 SCR = scr := (p1 SCR (by have := SCR_hi; omega)).trans hsc
      have hA1 : AllG (N + 4000) ((opN g a b false (n + 1), ohR oh a b false (n + 1), ng, nd, nc, h), ((g, oh, ng, nd, nc, h) :: H).take 8, sv, y0, d0, c, len, er) := hA.keep (by omega) ⟨snd_open hS hk (by omega), by dsimp only; omega⟩
      simp (disch := first | assumption | omega) only [s_214_448, s_214_449, s_214_450, s_214_452, s_214_453, s_214_454, s_214_455, s_214_456, s_214_458, s_214_459, s_214_460, s_214_461, s_214_462, s_214_464, s_214_465, s_214_466, s_214_467, s_214_468, s_214_470, s_214_471, s_214_472, s_214_473, s_214_476, s_214_477, s_214_480, s_214_481, s_214_482, r_214_482, s_214_485, s_214_487, s_214_488, s_214_489, s_214_491, s_214_492, s_214_493, s_214_494, s_214_495, s_214_497, s_214_498, s_214_499, s_214_500, s_214_501, s_214_503, s_214_504, s_214_505, s_214_506, s_214_507, s_214_509, s_214_510, s_214_511, s_214_512, s_214_515, s_214_516, s_214_519, s_214_520, r_214_520, s_214_523, s_214_525, s_214_526, r_214_526, s_214_529, s_214_531, s_214_534, s_214_535, s_214_536, s_214_538, s_214_541, s_214_542, s_214_543, s_214_544, s_214_546, s_214_547, s_214_548, s_214_551, s_214_552, s_214_553, jI_mul, jI_add, jI_tnc, jI_ixT, true_and, and_true, bZ_0, bZ_1, bZ_b, jI_nz, jI_div, jI_rem, jI_mod, Nat.add_zero, bI_if, not_false_iff, if_true, if_false, eq_self, hsc1]
      have e9 : σ1 369 = g := (hR1).1
      have e6 : σ1 368 6 = jI H.length := (hR1).2.1.2.1
      have el : H.length ≤ 8 := (hR1).2.1.1
      have e7 : σ1 368 7 = jI 0 := (hR1).2.2.2.2.1
      rw [if_pos z, MM_MG e9]
      refine m_open (p := false) b1 b5 hO (wi := false) e7 e6 el (fun q' => absurd (hs_mk ek hk (by omega)) q') (fun _ q' => absurd (area_mk ea eb hn) q') (fun a' b' n' hk' ek' ea' eb' hn' => ?_)
      obtain rfl : a = a' := jI_c ek ek' (by omega) (by omega)
      obtain rfl : b = b' := jI_c ea ea' (by omega) (by omega)
      obtain rfl : n = n' := by
          have := jI_c eb eb' (by omega) (by omega)
          omega
      obtain ⟨a1, a2, a3⟩ := RI_keep (s' := (opN g a b false (n + 1), ohR oh a b false (n + 1), ng, nd, nc, h)) (τ := _) hR1 FR.refl
      dsimp only at a1 a2 a3
      simp (disch := first | assumption | omega) only [s_214_448, s_214_449, s_214_450, s_214_452, s_214_453, s_214_454, s_214_455, s_214_456, s_214_458, s_214_459, s_214_460, s_214_461, s_214_462, s_214_464, s_214_465, s_214_466, s_214_467, s_214_468, s_214_470, s_214_471, s_214_472, s_214_473, s_214_476, s_214_477, s_214_480, s_214_481, s_214_482, r_214_482, s_214_485, s_214_487, s_214_488, s_214_489, s_214_491, s_214_492, s_214_493, s_214_494, s_214_495, s_214_497, s_214_498, s_214_499, s_214_500, s_214_501, s_214_503, s_214_504, s_214_505, s_214_506, s_214_507, s_214_509, s_214_510, s_214_511, s_214_512, s_214_515, s_214_516, s_214_519, s_214_520, r_214_520, s_214_523, s_214_525, s_214_526, r_214_526, s_214_529, s_214_531, s_214_534, s_214_535, s_214_536, s_214_538, s_214_541, s_214_542, s_214_543, s_214_544, s_214_546, s_214_547, s_214_548, s_214_551, s_214_552, s_214_553, jI_mul, jI_add, jI_tnc, jI_ixT, true_and, and_true, bZ_0, bZ_1, bZ_b, jI_nz, jI_div, jI_rem, jI_mod, Nat.add_zero, bI_if, not_false_iff, if_true, if_false, eq_self, m_thrown, a2, u2_lo, lgS, if_true, if_false]
      exact HN _ _ _ _ _ _ _ _ _ ⟨CI_pr (AllG.gd hA1) hC1 a3, a1, hA1⟩ ((a3 SCR (Or.inr SCR_hi)).trans hsc1) (by omega) (by omega)
  · rw [if_neg z]
    refine w_open (p := true) hG hC (fun q => ?_) (fun q q1 => ?_) (fun a b n hk ek ea eb hn σ1 hC1 p1 => ?_)
    · skip
      simp (disch := first | assumption | omega) only [s_214_448, s_214_449, s_214_450, s_214_452, s_214_453, s_214_454, s_214_455, s_214_456, s_214_458, s_214_459, s_214_460, s_214_461, s_214_462, s_214_464, s_214_465, s_214_466, s_214_467, s_214_468, s_214_470, s_214_471, s_214_472, s_214_473, s_214_476, s_214_477, s_214_480, s_214_481, s_214_482, r_214_482, s_214_485, s_214_487, s_214_488, s_214_489, s_214_491, s_214_492, s_214_493, s_214_494, s_214_495, s_214_497, s_214_498, s_214_499, s_214_500, s_214_501, s_214_503, s_214_504, s_214_505, s_214_506, s_214_507, s_214_509, s_214_510, s_214_511, s_214_512, s_214_515, s_214_516, s_214_519, s_214_520, r_214_520, s_214_523, s_214_525, s_214_526, r_214_526, s_214_529, s_214_531, s_214_534, s_214_535, s_214_536, s_214_538, s_214_541, s_214_542, s_214_543, s_214_544, s_214_546, s_214_547, s_214_548, s_214_551, s_214_552, s_214_553, jI_mul, jI_add, jI_tnc, jI_ixT, true_and, and_true, bZ_0, bZ_1, bZ_b, jI_nz, jI_div, jI_rem, jI_mod, Nat.add_zero, bI_if, not_false_iff, if_true, if_false, eq_self, hsc]
      have e9 : σ 369 = g := (hR).1
      have e6 : σ 368 6 = jI H.length := (hR).2.1.2.1
      have el : H.length ≤ 8 := (hR).2.1.1
      have e7 : σ 368 7 = jI 0 := (hR).2.2.2.2.1
      rw [if_neg z, MM_MG e9]
      refine m_open (p := true) b1 b5 hO (wi := false) e7 e6 el (fun _ => ?_) (fun q' => absurd q' q) (fun a b n hk ek => absurd (hs_mk ek hk (by omega)) q)
      obtain ⟨a1, a2, a3⟩ := RI_code (v := jI 1) hR
      dsimp only at a1 a2 a3
      simp (disch := first | assumption | omega) only [s_214_448, s_214_449, s_214_450, s_214_452, s_214_453, s_214_454, s_214_455, s_214_456, s_214_458, s_214_459, s_214_460, s_214_461, s_214_462, s_214_464, s_214_465, s_214_466, s_214_467, s_214_468, s_214_470, s_214_471, s_214_472, s_214_473, s_214_476, s_214_477, s_214_480, s_214_481, s_214_482, r_214_482, s_214_485, s_214_487, s_214_488, s_214_489, s_214_491, s_214_492, s_214_493, s_214_494, s_214_495, s_214_497, s_214_498, s_214_499, s_214_500, s_214_501, s_214_503, s_214_504, s_214_505, s_214_506, s_214_507, s_214_509, s_214_510, s_214_511, s_214_512, s_214_515, s_214_516, s_214_519, s_214_520, r_214_520, s_214_523, s_214_525, s_214_526, r_214_526, s_214_529, s_214_531, s_214_534, s_214_535, s_214_536, s_214_538, s_214_541, s_214_542, s_214_543, s_214_544, s_214_546, s_214_547, s_214_548, s_214_551, s_214_552, s_214_553, jI_mul, jI_add, jI_tnc, jI_ixT, true_and, and_true, bZ_0, bZ_1, bZ_b, jI_nz, jI_div, jI_rem, jI_mod, Nat.add_zero, bI_if, not_false_iff, if_true, if_false, eq_self, m_thrown, a2, n1, if_true, if_false]
      exact HN _ _ _ _ _ _ _ _ _ ⟨CI_pr hG hC a3, a1, hA4⟩ ((a3 SCR (Or.inr SCR_hi)).trans hsc) (by omega) (by omega)
    · skip
      simp (disch := first | assumption | omega) only [s_214_448, s_214_449, s_214_450, s_214_452, s_214_453, s_214_454, s_214_455, s_214_456, s_214_458, s_214_459, s_214_460, s_214_461, s_214_462, s_214_464, s_214_465, s_214_466, s_214_467, s_214_468, s_214_470, s_214_471, s_214_472, s_214_473, s_214_476, s_214_477, s_214_480, s_214_481, s_214_482, r_214_482, s_214_485, s_214_487, s_214_488, s_214_489, s_214_491, s_214_492, s_214_493, s_214_494, s_214_495, s_214_497, s_214_498, s_214_499, s_214_500, s_214_501, s_214_503, s_214_504, s_214_505, s_214_506, s_214_507, s_214_509, s_214_510, s_214_511, s_214_512, s_214_515, s_214_516, s_214_519, s_214_520, r_214_520, s_214_523, s_214_525, s_214_526, r_214_526, s_214_529, s_214_531, s_214_534, s_214_535, s_214_536, s_214_538, s_214_541, s_214_542, s_214_543, s_214_544, s_214_546, s_214_547, s_214_548, s_214_551, s_214_552, s_214_553, jI_mul, jI_add, jI_tnc, jI_ixT, true_and, and_true, bZ_0, bZ_1, bZ_b, jI_nz, jI_div, jI_rem, jI_mod, Nat.add_zero, bI_if, not_false_iff, if_true, if_false, eq_self, hsc]
      have e9 : σ 369 = g := (hR).1
      have e6 : σ 368 6 = jI H.length := (hR).2.1.2.1
      have el : H.length ≤ 8 := (hR).2.1.1
      have e7 : σ 368 7 = jI 0 := (hR).2.2.2.2.1
      rw [if_neg z, MM_MG e9]
      refine m_open (p := true) b1 b5 hO (wi := false) e7 e6 el (fun q' => absurd q q') (fun _ _ => ?_) (fun a b n hk ek ea eb hn => absurd (area_mk ea eb hn) q1)
      obtain ⟨a1, a2, a3⟩ := RI_code (v := jI 2) hR
      dsimp only at a1 a2 a3
      simp (disch := first | assumption | omega) only [s_214_448, s_214_449, s_214_450, s_214_452, s_214_453, s_214_454, s_214_455, s_214_456, s_214_458, s_214_459, s_214_460, s_214_461, s_214_462, s_214_464, s_214_465, s_214_466, s_214_467, s_214_468, s_214_470, s_214_471, s_214_472, s_214_473, s_214_476, s_214_477, s_214_480, s_214_481, s_214_482, r_214_482, s_214_485, s_214_487, s_214_488, s_214_489, s_214_491, s_214_492, s_214_493, s_214_494, s_214_495, s_214_497, s_214_498, s_214_499, s_214_500, s_214_501, s_214_503, s_214_504, s_214_505, s_214_506, s_214_507, s_214_509, s_214_510, s_214_511, s_214_512, s_214_515, s_214_516, s_214_519, s_214_520, r_214_520, s_214_523, s_214_525, s_214_526, r_214_526, s_214_529, s_214_531, s_214_534, s_214_535, s_214_536, s_214_538, s_214_541, s_214_542, s_214_543, s_214_544, s_214_546, s_214_547, s_214_548, s_214_551, s_214_552, s_214_553, jI_mul, jI_add, jI_tnc, jI_ixT, true_and, and_true, bZ_0, bZ_1, bZ_b, jI_nz, jI_div, jI_rem, jI_mod, Nat.add_zero, bI_if, not_false_iff, if_true, if_false, eq_self, m_thrown, a2, n2, if_true, if_false]
      exact HN _ _ _ _ _ _ _ _ _ ⟨CI_pr hG hC a3, a1, hA4⟩ ((a3 SCR (Or.inr SCR_hi)).trans hsc) (by omega) (by omega)
    · skip
      have hR1 := RI_pc hR p1
      have hsc1 : σ1 SCR = scr := (p1 SCR (by have := SCR_hi; omega)).trans hsc
      have hA1 : AllG (N + 4000) ((opN g a b true (n + 1), ohR oh a b true (n + 1), ng, nd, nc, h), ((g, oh, ng, nd, nc, h) :: H).take 8, sv, y0, d0, c, len, er) := hA.keep (by omega) ⟨snd_open hS hk (by omega), by dsimp only; omega⟩
      simp (disch := first | assumption | omega) only [s_214_448, s_214_449, s_214_450, s_214_452, s_214_453, s_214_454, s_214_455, s_214_456, s_214_458, s_214_459, s_214_460, s_214_461, s_214_462, s_214_464, s_214_465, s_214_466, s_214_467, s_214_468, s_214_470, s_214_471, s_214_472, s_214_473, s_214_476, s_214_477, s_214_480, s_214_481, s_214_482, r_214_482, s_214_485, s_214_487, s_214_488, s_214_489, s_214_491, s_214_492, s_214_493, s_214_494, s_214_495, s_214_497, s_214_498, s_214_499, s_214_500, s_214_501, s_214_503, s_214_504, s_214_505, s_214_506, s_214_507, s_214_509, s_214_510, s_214_511, s_214_512, s_214_515, s_214_516, s_214_519, s_214_520, r_214_520, s_214_523, s_214_525, s_214_526, r_214_526, s_214_529, s_214_531, s_214_534, s_214_535, s_214_536, s_214_538, s_214_541, s_214_542, s_214_543, s_214_544, s_214_546, s_214_547, s_214_548, s_214_551, s_214_552, s_214_553, jI_mul, jI_add, jI_tnc, jI_ixT, true_and, and_true, bZ_0, bZ_1, bZ_b, jI_nz, jI_div, jI_rem, jI_mod, Nat.add_zero, bI_if, not_false_iff, if_true, if_false, eq_self, hsc1]
      have e9 : σ1 369 = g := (hR1).1
      have e6 : σ1 368 6 = jI H.length := (hR1).2.1.2.1
      have el : H.length ≤ 8 := (hR1).2.1.1
      have e7 : σ1 368 7 = jI 0 := (hR1).2.2.2.2.1
      rw [if_neg z, MM_MG e9]
      refine m_open (p := true) b1 b5 hO (wi := false) e7 e6 el (fun q' => absurd (hs_mk ek hk (by omega)) q') (fun _ q' => absurd (area_mk ea eb hn) q') (fun a' b' n' hk' ek' ea' eb' hn' => ?_)
      obtain rfl : a = a' := jI_c ek ek' (by omega) (by omega)
      obtain rfl : b = b' := jI_c ea ea' (by omega) (by omega)
      obtain rfl : n = n' := by
          have := jI_c eb eb' (by omega) (by omega)
          omega
      obtain ⟨a1, a2, a3⟩ := RI_keep (s' := (opN g a b true (n + 1), ohR oh a b true (n + 1), ng, nd, nc, h)) (τ := _) hR1 FR.refl
      dsimp only at a1 a2 a3
      simp (disch := first | assumption | omega) only [s_214_448, s_214_449, s_214_450, s_214_452, s_214_453, s_214_454, s_214_455, s_214_456, s_214_458, s_214_459, s_214_460, s_214_461, s_214_462, s_214_464, s_214_465, s_214_466, s_214_467, s_214_468, s_214_470, s_214_471, s_214_472, s_214_473, s_214_476, s_214_477, s_214_480, s_214_481, s_214_482, r_214_482, s_214_485, s_214_487, s_214_488, s_214_489, s_214_491, s_214_492, s_214_493, s_214_494, s_214_495, s_214_497, s_214_498, s_214_499, s_214_500, s_214_501, s_214_503, s_214_504, s_214_505, s_214_506, s_214_507, s_214_509, s_214_510, s_214_511, s_214_512, s_214_515, s_214_516, s_214_519, s_214_520, r_214_520, s_214_523, s_214_525, s_214_526, r_214_526, s_214_529, s_214_531, s_214_534, s_214_535, s_214_536, s_214_538, s_214_541, s_214_542, s_214_543, s_214_544, s_214_546, s_214_547, s_214_548, s_214_551, s_214_552, s_214_553, jI_mul, jI_add, jI_tnc, jI_ixT, true_and, and_true, bZ_0, bZ_1, bZ_b, jI_nz, jI_div, jI_rem, jI_mod, Nat.add_zero, bI_if, not_false_iff, if_true, if_false, eq_self, m_thrown, a2, u2_lo, lgS, if_true, if_false]
      exact HN _ _ _ _ _ _ _ _ _ ⟨CI_pr (AllG.gd hA1) hC1 a3, a1, hA1⟩ ((a3 SCR (Or.inr SCR_hi)).trans hsc1) (by omega) (by omega)

theorem L_pay (hL : LInv N σ G) (hN : N ≤ 100000000) (hi : i + 4 < Ln) (hLn : Ln ≤ 100000) (hsc : σ SCR = scr) (hk : k ≤ 603000) (hs : s ≤ 7207000) (HN : NXT N Ln i k s scr K) :
    Ev 214 (556, [.ref SCR, .ref 0, .ref 368, .ref 377, .ref 378, .int (jI i), v6, v7, v8], [], k, s, MM Ln σ lo db) K := by
  obtain ⟨hC, hR, hA⟩ := hL
  have hG := hA.gd
  obtain ⟨⟨g, oh, ng, nd, nc, h⟩, H, sv, y0, d0, c, len, er⟩ := G
  have hS : Snd (g, oh, ng, nd, nc, h) := hA.1.1
  have hh : h ≤ N := hA.1.2
  have hA4 := hA.mono (show N ≤ N + 4000 by omega)
  obtain ⟨hB, hO, hNG, hAC⟩ := Snd_of hS
  have hBa := Bas_of hB hO
  have hB0 := hB
  obtain ⟨b1, b2, b3, b4, b5, b6, b7, b8, b9⟩ := hB
  have n1 : (jI 1 = jI 0) = False := jI_nz (by decide) (by decide)
  have n2 : (jI 2 = jI 0) = False := jI_nz (by decide) (by decide)
  have n3 : (jI 3 = jI 0) = False := jI_nz (by decide) (by decide)
  have hks : k + 1 ≤ 603072 ∧ s + 6 ≤ 7207017 := by omega
  have hks2 : k + 1 + 0 ≤ 603072 ∧ s + 6 + 0 ≤ 7207017 := by omega
  simp (disch := first | assumption | omega) only [s_214_556, s_214_557, s_214_558, s_214_560, s_214_561, s_214_562, s_214_563, s_214_564, s_214_566, s_214_567, s_214_568, s_214_569, s_214_570, r_214_570, s_214_573, s_214_575, s_214_576, s_214_577, s_214_579, s_214_580, s_214_581, s_214_582, s_214_583, s_214_585, s_214_586, s_214_587, s_214_588, r_214_588, s_214_591, s_214_593, s_214_594, r_214_594, s_214_597, s_214_599, s_214_602, s_214_603, s_214_604, s_214_606, s_214_609, s_214_610, s_214_611, s_214_612, s_214_614, s_214_615, s_214_616, s_214_619, s_214_620, s_214_621, jI_mul, jI_add, jI_tnc, jI_ixT, true_and, and_true, bZ_0, bZ_1, bZ_b, jI_nz, jI_div, jI_rem, jI_mod, Nat.add_zero, bI_if, not_false_iff, if_true, if_false, eq_self, hsc]
  refine w_pay hG hC (fun q => ?_) (fun q q1 => ?_) (fun a ha ea q1 σ1 hC1 p1 => ?_)
  · skip
    simp (disch := first | assumption | omega) only [s_214_556, s_214_557, s_214_558, s_214_560, s_214_561, s_214_562, s_214_563, s_214_564, s_214_566, s_214_567, s_214_568, s_214_569, s_214_570, r_214_570, s_214_573, s_214_575, s_214_576, s_214_577, s_214_579, s_214_580, s_214_581, s_214_582, s_214_583, s_214_585, s_214_586, s_214_587, s_214_588, r_214_588, s_214_591, s_214_593, s_214_594, r_214_594, s_214_597, s_214_599, s_214_602, s_214_603, s_214_604, s_214_606, s_214_609, s_214_610, s_214_611, s_214_612, s_214_614, s_214_615, s_214_616, s_214_619, s_214_620, s_214_621, jI_mul, jI_add, jI_tnc, jI_ixT, true_and, and_true, bZ_0, bZ_1, bZ_b, jI_nz, jI_div, jI_rem, jI_mod, Nat.add_zero, bI_if, not_false_iff, if_true, if_false, eq_self, hsc]
    have e9 : σ 369 = g := (hR).1
    have e6 : σ 368 6 = jI H.length := (hR).2.1.2.1
    have el : H.length ≤ 8 := (hR).2.1.1
    have e7 : σ 368 7 = jI 0 := (hR).2.2.2.2.1
    rw [MM_MG e9]
    refine m_pay b2 b6 (wi := false) e7 e6 el (fun _ => ?_) (fun q' => absurd q' q) (fun a ha ea => absurd (hs_mk ea ha b2) q)
    obtain ⟨a1, a2, a3⟩ := RI_code (v := jI 1) hR
    dsimp only at a1 a2 a3
    simp (disch := first | assumption | omega) only [s_214_556, s_214_557, s_214_558, s_214_560, s_214_561, s_214_562, s_214_563, s_214_564, s_214_566, s_214_567, s_214_568, s_214_569, s_214_570, r_214_570, s_214_573, s_214_575, s_214_576, s_214_577, s_214_579, s_214_580, s_214_581, s_214_582, s_214_583, s_214_585, s_214_586, s_214_587, s_214_588, r_214_588, s_214_591, s_214_593, s_214_594, r_214_594, s_214_597, s_214_599, s_214_602, s_214_603, s_214_604, s_214_606, s_214_609, s_214_610, s_214_611, s_214_612, s_214_614, s_214_615, s_214_616, s_214_619, s_214_620, s_214_621, jI_mul, jI_add, jI_tnc, jI_ixT, true_and, and_true, bZ_0, bZ_1, bZ_b, jI_nz, jI_div, jI_rem, jI_mod, Nat.add_zero, bI_if, not_false_iff, if_true, if_false, eq_self, m_thrown, a2, n1, if_true, if_false]
    exact HN _ _ _ _ _ _ _ _ _ ⟨CI_pr hG hC a3, a1, hA4⟩ ((a3 SCR (Or.inr SCR_hi)).trans hsc) (by omega) (by omega)
  · skip
    simp (disch := first | assumption | omega) only [s_214_556, s_214_557, s_214_558, s_214_560, s_214_561, s_214_562, s_214_563, s_214_564, s_214_566, s_214_567, s_214_568, s_214_569, s_214_570, r_214_570, s_214_573, s_214_575, s_214_576, s_214_577, s_214_579, s_214_580, s_214_581, s_214_582, s_214_583, s_214_585, s_214_586, s_214_587, s_214_588, r_214_588, s_214_591, s_214_593, s_214_594, r_214_594, s_214_597, s_214_599, s_214_602, s_214_603, s_214_604, s_214_606, s_214_609, s_214_610, s_214_611, s_214_612, s_214_614, s_214_615, s_214_616, s_214_619, s_214_620, s_214_621, jI_mul, jI_add, jI_tnc, jI_ixT, true_and, and_true, bZ_0, bZ_1, bZ_b, jI_nz, jI_div, jI_rem, jI_mod, Nat.add_zero, bI_if, not_false_iff, if_true, if_false, eq_self, hsc]
    have e9 : σ 369 = g := (hR).1
    have e6 : σ 368 6 = jI H.length := (hR).2.1.2.1
    have el : H.length ≤ 8 := (hR).2.1.1
    have e7 : σ 368 7 = jI 0 := (hR).2.2.2.2.1
    rw [MM_MG e9]
    refine m_pay b2 b6 (wi := false) e7 e6 el (fun q' => absurd q q') (fun _ _ => ?_) (fun a ha ea q' => absurd q' q1)
    obtain ⟨a1, a2, a3⟩ := RI_code (v := jI 2) hR
    dsimp only at a1 a2 a3
    simp (disch := first | assumption | omega) only [s_214_556, s_214_557, s_214_558, s_214_560, s_214_561, s_214_562, s_214_563, s_214_564, s_214_566, s_214_567, s_214_568, s_214_569, s_214_570, r_214_570, s_214_573, s_214_575, s_214_576, s_214_577, s_214_579, s_214_580, s_214_581, s_214_582, s_214_583, s_214_585, s_214_586, s_214_587, s_214_588, r_214_588, s_214_591, s_214_593, s_214_594, r_214_594, s_214_597, s_214_599, s_214_602, s_214_603, s_214_604, s_214_606, s_214_609, s_214_610, s_214_611, s_214_612, s_214_614, s_214_615, s_214_616, s_214_619, s_214_620, s_214_621, jI_mul, jI_add, jI_tnc, jI_ixT, true_and, and_true, bZ_0, bZ_1, bZ_b, jI_nz, jI_div, jI_rem, jI_mod, Nat.add_zero, bI_if, not_false_iff, if_true, if_false, eq_self, m_thrown, a2, n2, if_true, if_false]
    exact HN _ _ _ _ _ _ _ _ _ ⟨CI_pr hG hC a3, a1, hA4⟩ ((a3 SCR (Or.inr SCR_hi)).trans hsc) (by omega) (by omega)
  · skip
    have hR1 := RI_pc hR p1
    have hsc1 : σ1 SCR = scr := (p1 SCR (by have := SCR_hi; omega)).trans hsc
    have hA1 : AllG (N + 4000) ((gu g (75 + 9 * a + 3) (g (75 + 9 * a + 3) + (scr (i + 2))), oh, ng, nd, nc, h), ((g, oh, ng, nd, nc, h) :: H).take 8, sv, y0, d0, c, len, er) := hA.keep (by omega) ⟨snd_pay hS ha, by dsimp only; omega⟩
    simp (disch := first | assumption | omega) only [s_214_556, s_214_557, s_214_558, s_214_560, s_214_561, s_214_562, s_214_563, s_214_564, s_214_566, s_214_567, s_214_568, s_214_569, s_214_570, r_214_570, s_214_573, s_214_575, s_214_576, s_214_577, s_214_579, s_214_580, s_214_581, s_214_582, s_214_583, s_214_585, s_214_586, s_214_587, s_214_588, r_214_588, s_214_591, s_214_593, s_214_594, r_214_594, s_214_597, s_214_599, s_214_602, s_214_603, s_214_604, s_214_606, s_214_609, s_214_610, s_214_611, s_214_612, s_214_614, s_214_615, s_214_616, s_214_619, s_214_620, s_214_621, jI_mul, jI_add, jI_tnc, jI_ixT, true_and, and_true, bZ_0, bZ_1, bZ_b, jI_nz, jI_div, jI_rem, jI_mod, Nat.add_zero, bI_if, not_false_iff, if_true, if_false, eq_self, hsc1]
    have e9 : σ1 369 = g := (hR1).1
    have e6 : σ1 368 6 = jI H.length := (hR1).2.1.2.1
    have el : H.length ≤ 8 := (hR1).2.1.1
    have e7 : σ1 368 7 = jI 0 := (hR1).2.2.2.2.1
    rw [MM_MG e9]
    refine m_pay b2 b6 (wi := false) e7 e6 el (fun q' => absurd (hs_mk ea ha b2) q') (fun _ q' => absurd q1 q') (fun a' ha' ea' _ => ?_)
    obtain rfl : a = a' := jI_c ea ea' (by omega) (by omega)
    obtain ⟨a1, a2, a3⟩ := RI_keep (s' := (gu g (75 + 9 * a + 3) (g (75 + 9 * a + 3) + (scr (i + 2))), oh, ng, nd, nc, h)) (τ := _) hR1 FR.refl
    dsimp only at a1 a2 a3
    simp (disch := first | assumption | omega) only [s_214_556, s_214_557, s_214_558, s_214_560, s_214_561, s_214_562, s_214_563, s_214_564, s_214_566, s_214_567, s_214_568, s_214_569, s_214_570, r_214_570, s_214_573, s_214_575, s_214_576, s_214_577, s_214_579, s_214_580, s_214_581, s_214_582, s_214_583, s_214_585, s_214_586, s_214_587, s_214_588, r_214_588, s_214_591, s_214_593, s_214_594, r_214_594, s_214_597, s_214_599, s_214_602, s_214_603, s_214_604, s_214_606, s_214_609, s_214_610, s_214_611, s_214_612, s_214_614, s_214_615, s_214_616, s_214_619, s_214_620, s_214_621, jI_mul, jI_add, jI_tnc, jI_ixT, true_and, and_true, bZ_0, bZ_1, bZ_b, jI_nz, jI_div, jI_rem, jI_mod, Nat.add_zero, bI_if, not_false_iff, if_true, if_false, eq_self, m_thrown, a2, u2_lo, lgS, if_true, if_false]
    exact HN _ _ _ _ _ _ _ _ _ ⟨CI_pr (AllG.gd hA1) hC1 a3, a1, hA1⟩ ((a3 SCR (Or.inr SCR_hi)).trans hsc1) (by omega) (by omega)

theorem L_thief (hL : LInv N σ G) (hN : N ≤ 100000000) (hi : i + 4 < Ln) (hLn : Ln ≤ 100000) (hsc : σ SCR = scr) (hk : k ≤ 603000) (hs : s ≤ 7207000) (HN : NXT N Ln i k s scr K) :
    Ev 214 (624, [.ref SCR, .ref 0, .ref 368, .ref 377, .ref 378, .int (jI i), v6, v7, v8], [], k, s, MM Ln σ lo db) K := by
  obtain ⟨hC, hR, hA⟩ := hL
  have hG := hA.gd
  obtain ⟨⟨g, oh, ng, nd, nc, h⟩, H, sv, y0, d0, c, len, er⟩ := G
  have hS : Snd (g, oh, ng, nd, nc, h) := hA.1.1
  have hh : h ≤ N := hA.1.2
  have hA4 := hA.mono (show N ≤ N + 4000 by omega)
  obtain ⟨hB, hO, hNG, hAC⟩ := Snd_of hS
  have hBa := Bas_of hB hO
  have hB0 := hB
  obtain ⟨b1, b2, b3, b4, b5, b6, b7, b8, b9⟩ := hB
  have n1 : (jI 1 = jI 0) = False := jI_nz (by decide) (by decide)
  have n2 : (jI 2 = jI 0) = False := jI_nz (by decide) (by decide)
  have n3 : (jI 3 = jI 0) = False := jI_nz (by decide) (by decide)
  have hks : k + 1 ≤ 603072 ∧ s + 6 ≤ 7207017 := by omega
  have hks2 : k + 1 + 0 ≤ 603072 ∧ s + 6 + 0 ≤ 7207017 := by omega
  simp (disch := first | assumption | omega) only [s_214_624, s_214_625, s_214_626, s_214_628, s_214_629, s_214_630, s_214_631, s_214_632, s_214_634, s_214_635, s_214_636, s_214_637, s_214_640, s_214_641, s_214_644, s_214_645, s_214_646, r_214_646, s_214_649, s_214_651, s_214_652, s_214_653, s_214_655, s_214_656, s_214_657, s_214_658, s_214_659, s_214_661, s_214_662, s_214_663, s_214_664, s_214_667, s_214_668, s_214_671, s_214_672, r_214_672, s_214_675, s_214_677, s_214_678, r_214_678, s_214_681, s_214_683, s_214_686, s_214_687, s_214_688, s_214_690, s_214_693, s_214_694, s_214_695, s_214_696, s_214_698, s_214_701, s_214_702, s_214_705, s_214_706, s_214_707, s_214_710, s_214_711, s_214_712, jI_mul, jI_add, jI_tnc, jI_ixT, true_and, and_true, bZ_0, bZ_1, bZ_b, jI_nz, jI_div, jI_rem, jI_mod, Nat.add_zero, bI_if, not_false_iff, if_true, if_false, eq_self, hsc]
  by_cases z : scr (i + 2) = jI 0
  · rw [if_pos z]
    refine w_thief (p := False) hG hC (fun q => ?_) (fun a ha ea σ1 hC1 p1 => ?_)
    · skip
      simp (disch := first | assumption | omega) only [s_214_624, s_214_625, s_214_626, s_214_628, s_214_629, s_214_630, s_214_631, s_214_632, s_214_634, s_214_635, s_214_636, s_214_637, s_214_640, s_214_641, s_214_644, s_214_645, s_214_646, r_214_646, s_214_649, s_214_651, s_214_652, s_214_653, s_214_655, s_214_656, s_214_657, s_214_658, s_214_659, s_214_661, s_214_662, s_214_663, s_214_664, s_214_667, s_214_668, s_214_671, s_214_672, r_214_672, s_214_675, s_214_677, s_214_678, r_214_678, s_214_681, s_214_683, s_214_686, s_214_687, s_214_688, s_214_690, s_214_693, s_214_694, s_214_695, s_214_696, s_214_698, s_214_701, s_214_702, s_214_705, s_214_706, s_214_707, s_214_710, s_214_711, s_214_712, jI_mul, jI_add, jI_tnc, jI_ixT, true_and, and_true, bZ_0, bZ_1, bZ_b, jI_nz, jI_div, jI_rem, jI_mod, Nat.add_zero, bI_if, not_false_iff, if_true, if_false, eq_self, hsc]
      have e9 : σ 369 = g := (hR).1
      have e6 : σ 368 6 = jI H.length := (hR).2.1.2.1
      have el : H.length ≤ 8 := (hR).2.1.1
      have e7 : σ 368 7 = jI 0 := (hR).2.2.2.2.1
      rw [if_pos z, MM_MG e9]
      refine m_thief (p := False) b2 b6 (wi := false) e7 e6 el (fun _ => ?_) (fun a ha ea => absurd (hs_mk ea ha b2) q)
      obtain ⟨a1, a2, a3⟩ := RI_code (v := jI 1) hR
      dsimp only at a1 a2 a3
      simp (disch := first | assumption | omega) only [s_214_624, s_214_625, s_214_626, s_214_628, s_214_629, s_214_630, s_214_631, s_214_632, s_214_634, s_214_635, s_214_636, s_214_637, s_214_640, s_214_641, s_214_644, s_214_645, s_214_646, r_214_646, s_214_649, s_214_651, s_214_652, s_214_653, s_214_655, s_214_656, s_214_657, s_214_658, s_214_659, s_214_661, s_214_662, s_214_663, s_214_664, s_214_667, s_214_668, s_214_671, s_214_672, r_214_672, s_214_675, s_214_677, s_214_678, r_214_678, s_214_681, s_214_683, s_214_686, s_214_687, s_214_688, s_214_690, s_214_693, s_214_694, s_214_695, s_214_696, s_214_698, s_214_701, s_214_702, s_214_705, s_214_706, s_214_707, s_214_710, s_214_711, s_214_712, jI_mul, jI_add, jI_tnc, jI_ixT, true_and, and_true, bZ_0, bZ_1, bZ_b, jI_nz, jI_div, jI_rem, jI_mod, Nat.add_zero, bI_if, not_false_iff, if_true, if_false, eq_self, m_thrown, a2, n1, if_true, if_false]
      exact HN _ _ _ _ _ _ _ _ _ ⟨CI_pr hG hC a3, a1, hA4⟩ ((a3 SCR (Or.inr SCR_hi)).trans hsc) (by omega) (by omega)
    · skip
      have hR1 := RI_pc hR p1
      have hsc1 : σ1 SCR = scr := (p1 SCR (by have := SCR_hi; omega)).trans hsc
      have hA1 : AllG (N + 4000) ((gu g (75 + 9 * a + 5) (jI 0), oh, ng, nd, nc, h), ((g, oh, ng, nd, nc, h) :: H).take 8, sv, y0, d0, c, len, er) := hA.keep (by omega) ⟨(snd_thief (p := False) hS ha), by dsimp only; omega⟩
      simp (disch := first | assumption | omega) only [s_214_624, s_214_625, s_214_626, s_214_628, s_214_629, s_214_630, s_214_631, s_214_632, s_214_634, s_214_635, s_214_636, s_214_637, s_214_640, s_214_641, s_214_644, s_214_645, s_214_646, r_214_646, s_214_649, s_214_651, s_214_652, s_214_653, s_214_655, s_214_656, s_214_657, s_214_658, s_214_659, s_214_661, s_214_662, s_214_663, s_214_664, s_214_667, s_214_668, s_214_671, s_214_672, r_214_672, s_214_675, s_214_677, s_214_678, r_214_678, s_214_681, s_214_683, s_214_686, s_214_687, s_214_688, s_214_690, s_214_693, s_214_694, s_214_695, s_214_696, s_214_698, s_214_701, s_214_702, s_214_705, s_214_706, s_214_707, s_214_710, s_214_711, s_214_712, jI_mul, jI_add, jI_tnc, jI_ixT, true_and, and_true, bZ_0, bZ_1, bZ_b, jI_nz, jI_div, jI_rem, jI_mod, Nat.add_zero, bI_if, not_false_iff, if_true, if_false, eq_self, hsc1]
      have e9 : σ1 369 = g := (hR1).1
      have e6 : σ1 368 6 = jI H.length := (hR1).2.1.2.1
      have el : H.length ≤ 8 := (hR1).2.1.1
      have e7 : σ1 368 7 = jI 0 := (hR1).2.2.2.2.1
      rw [if_pos z, MM_MG e9]
      refine m_thief (p := False) b2 b6 (wi := false) e7 e6 el (fun q' => absurd (hs_mk ea ha b2) q') (fun a' ha' ea' => ?_)
      obtain rfl : a = a' := jI_c ea ea' (by omega) (by omega)
      have hz : (if g (75 + 9 * a + 5) = jI 0 then (0 : Int64) else 1) = if g (75 + 9 * a + 5) = jI 1 then 1 else 0 := by
        rcases (QC_5 b1 ha).mp (b9 (75 + 9 * a + 5)) with e | e
        · rw [e]; rfl
        · rw [e]; rfl
      rw [hz]
      by_cases y : g (75 + 9 * a + 5) = jI 1
      all_goals simp only [y, bI, if_true, if_false]
      all_goals
        obtain ⟨a1, a2, a3⟩ := RI_keep (s' := (gu g (75 + 9 * a + 5) (jI 0), oh, ng, nd, nc, h)) (τ := _) hR1 FR.refl
        dsimp only at a1 a2 a3
        simp (disch := first | assumption | omega) only [s_214_624, s_214_625, s_214_626, s_214_628, s_214_629, s_214_630, s_214_631, s_214_632, s_214_634, s_214_635, s_214_636, s_214_637, s_214_640, s_214_641, s_214_644, s_214_645, s_214_646, r_214_646, s_214_649, s_214_651, s_214_652, s_214_653, s_214_655, s_214_656, s_214_657, s_214_658, s_214_659, s_214_661, s_214_662, s_214_663, s_214_664, s_214_667, s_214_668, s_214_671, s_214_672, r_214_672, s_214_675, s_214_677, s_214_678, r_214_678, s_214_681, s_214_683, s_214_686, s_214_687, s_214_688, s_214_690, s_214_693, s_214_694, s_214_695, s_214_696, s_214_698, s_214_701, s_214_702, s_214_705, s_214_706, s_214_707, s_214_710, s_214_711, s_214_712, jI_mul, jI_add, jI_tnc, jI_ixT, true_and, and_true, bZ_0, bZ_1, bZ_b, jI_nz, jI_div, jI_rem, jI_mod, Nat.add_zero, bI_if, not_false_iff, if_true, if_false, eq_self, m_thrown, a2, u2_lo, lgS, if_true, if_false]
        exact HN _ _ _ _ _ _ _ _ _ ⟨CI_pr (AllG.gd hA1) hC1 a3, a1, hA1⟩ ((a3 SCR (Or.inr SCR_hi)).trans hsc1) (by omega) (by omega)
  · rw [if_neg z]
    refine w_thief (p := True) hG hC (fun q => ?_) (fun a ha ea σ1 hC1 p1 => ?_)
    · skip
      simp (disch := first | assumption | omega) only [s_214_624, s_214_625, s_214_626, s_214_628, s_214_629, s_214_630, s_214_631, s_214_632, s_214_634, s_214_635, s_214_636, s_214_637, s_214_640, s_214_641, s_214_644, s_214_645, s_214_646, r_214_646, s_214_649, s_214_651, s_214_652, s_214_653, s_214_655, s_214_656, s_214_657, s_214_658, s_214_659, s_214_661, s_214_662, s_214_663, s_214_664, s_214_667, s_214_668, s_214_671, s_214_672, r_214_672, s_214_675, s_214_677, s_214_678, r_214_678, s_214_681, s_214_683, s_214_686, s_214_687, s_214_688, s_214_690, s_214_693, s_214_694, s_214_695, s_214_696, s_214_698, s_214_701, s_214_702, s_214_705, s_214_706, s_214_707, s_214_710, s_214_711, s_214_712, jI_mul, jI_add, jI_tnc, jI_ixT, true_and, and_true, bZ_0, bZ_1, bZ_b, jI_nz, jI_div, jI_rem, jI_mod, Nat.add_zero, bI_if, not_false_iff, if_true, if_false, eq_self, hsc]
      have e9 : σ 369 = g := (hR).1
      have e6 : σ 368 6 = jI H.length := (hR).2.1.2.1
      have el : H.length ≤ 8 := (hR).2.1.1
      have e7 : σ 368 7 = jI 0 := (hR).2.2.2.2.1
      rw [if_neg z, MM_MG e9]
      refine m_thief (p := True) b2 b6 (wi := false) e7 e6 el (fun _ => ?_) (fun a ha ea => absurd (hs_mk ea ha b2) q)
      obtain ⟨a1, a2, a3⟩ := RI_code (v := jI 1) hR
      dsimp only at a1 a2 a3
      simp (disch := first | assumption | omega) only [s_214_624, s_214_625, s_214_626, s_214_628, s_214_629, s_214_630, s_214_631, s_214_632, s_214_634, s_214_635, s_214_636, s_214_637, s_214_640, s_214_641, s_214_644, s_214_645, s_214_646, r_214_646, s_214_649, s_214_651, s_214_652, s_214_653, s_214_655, s_214_656, s_214_657, s_214_658, s_214_659, s_214_661, s_214_662, s_214_663, s_214_664, s_214_667, s_214_668, s_214_671, s_214_672, r_214_672, s_214_675, s_214_677, s_214_678, r_214_678, s_214_681, s_214_683, s_214_686, s_214_687, s_214_688, s_214_690, s_214_693, s_214_694, s_214_695, s_214_696, s_214_698, s_214_701, s_214_702, s_214_705, s_214_706, s_214_707, s_214_710, s_214_711, s_214_712, jI_mul, jI_add, jI_tnc, jI_ixT, true_and, and_true, bZ_0, bZ_1, bZ_b, jI_nz, jI_div, jI_rem, jI_mod, Nat.add_zero, bI_if, not_false_iff, if_true, if_false, eq_self, m_thrown, a2, n1, if_true, if_false]
      exact HN _ _ _ _ _ _ _ _ _ ⟨CI_pr hG hC a3, a1, hA4⟩ ((a3 SCR (Or.inr SCR_hi)).trans hsc) (by omega) (by omega)
    · skip
      have hR1 := RI_pc hR p1
      have hsc1 : σ1 SCR = scr := (p1 SCR (by have := SCR_hi; omega)).trans hsc
      have hA1 : AllG (N + 4000) ((gu g (75 + 9 * a + 5) (jI 1), oh, ng, nd, nc, h), ((g, oh, ng, nd, nc, h) :: H).take 8, sv, y0, d0, c, len, er) := hA.keep (by omega) ⟨(snd_thief (p := True) hS ha), by dsimp only; omega⟩
      simp (disch := first | assumption | omega) only [s_214_624, s_214_625, s_214_626, s_214_628, s_214_629, s_214_630, s_214_631, s_214_632, s_214_634, s_214_635, s_214_636, s_214_637, s_214_640, s_214_641, s_214_644, s_214_645, s_214_646, r_214_646, s_214_649, s_214_651, s_214_652, s_214_653, s_214_655, s_214_656, s_214_657, s_214_658, s_214_659, s_214_661, s_214_662, s_214_663, s_214_664, s_214_667, s_214_668, s_214_671, s_214_672, r_214_672, s_214_675, s_214_677, s_214_678, r_214_678, s_214_681, s_214_683, s_214_686, s_214_687, s_214_688, s_214_690, s_214_693, s_214_694, s_214_695, s_214_696, s_214_698, s_214_701, s_214_702, s_214_705, s_214_706, s_214_707, s_214_710, s_214_711, s_214_712, jI_mul, jI_add, jI_tnc, jI_ixT, true_and, and_true, bZ_0, bZ_1, bZ_b, jI_nz, jI_div, jI_rem, jI_mod, Nat.add_zero, bI_if, not_false_iff, if_true, if_false, eq_self, hsc1]
      have e9 : σ1 369 = g := (hR1).1
      have e6 : σ1 368 6 = jI H.length := (hR1).2.1.2.1
      have el : H.length ≤ 8 := (hR1).2.1.1
      have e7 : σ1 368 7 = jI 0 := (hR1).2.2.2.2.1
      rw [if_neg z, MM_MG e9]
      refine m_thief (p := True) b2 b6 (wi := false) e7 e6 el (fun q' => absurd (hs_mk ea ha b2) q') (fun a' ha' ea' => ?_)
      obtain rfl : a = a' := jI_c ea ea' (by omega) (by omega)
      have hz : (if g (75 + 9 * a + 5) = jI 0 then (0 : Int64) else 1) = if g (75 + 9 * a + 5) = jI 1 then 1 else 0 := by
        rcases (QC_5 b1 ha).mp (b9 (75 + 9 * a + 5)) with e | e
        · rw [e]; rfl
        · rw [e]; rfl
      rw [hz]
      by_cases y : g (75 + 9 * a + 5) = jI 1
      all_goals simp only [y, bI, if_true, if_false]
      all_goals
        obtain ⟨a1, a2, a3⟩ := RI_keep (s' := (gu g (75 + 9 * a + 5) (jI 1), oh, ng, nd, nc, h)) (τ := _) hR1 FR.refl
        dsimp only at a1 a2 a3
        simp (disch := first | assumption | omega) only [s_214_624, s_214_625, s_214_626, s_214_628, s_214_629, s_214_630, s_214_631, s_214_632, s_214_634, s_214_635, s_214_636, s_214_637, s_214_640, s_214_641, s_214_644, s_214_645, s_214_646, r_214_646, s_214_649, s_214_651, s_214_652, s_214_653, s_214_655, s_214_656, s_214_657, s_214_658, s_214_659, s_214_661, s_214_662, s_214_663, s_214_664, s_214_667, s_214_668, s_214_671, s_214_672, r_214_672, s_214_675, s_214_677, s_214_678, r_214_678, s_214_681, s_214_683, s_214_686, s_214_687, s_214_688, s_214_690, s_214_693, s_214_694, s_214_695, s_214_696, s_214_698, s_214_701, s_214_702, s_214_705, s_214_706, s_214_707, s_214_710, s_214_711, s_214_712, jI_mul, jI_add, jI_tnc, jI_ixT, true_and, and_true, bZ_0, bZ_1, bZ_b, jI_nz, jI_div, jI_rem, jI_mod, Nat.add_zero, bI_if, not_false_iff, if_true, if_false, eq_self, m_thrown, a2, u2_lo, lgS, if_true, if_false]
        exact HN _ _ _ _ _ _ _ _ _ ⟨CI_pr (AllG.gd hA1) hC1 a3, a1, hA1⟩ ((a3 SCR (Or.inr SCR_hi)).trans hsc1) (by omega) (by omega)

theorem L_complain (hL : LInv N σ G) (hN : N ≤ 100000000) (hi : i + 4 < Ln) (hLn : Ln ≤ 100000) (hsc : σ SCR = scr) (hk : k ≤ 603000) (hs : s ≤ 7207000) (HN : NXT N Ln i k s scr K) :
    Ev 214 (715, [.ref SCR, .ref 0, .ref 368, .ref 377, .ref 378, .int (jI i), v6, v7, v8], [], k, s, MM Ln σ lo db) K := by
  obtain ⟨hC, hR, hA⟩ := hL
  have hG := hA.gd
  obtain ⟨⟨g, oh, ng, nd, nc, h⟩, H, sv, y0, d0, c, len, er⟩ := G
  have hS : Snd (g, oh, ng, nd, nc, h) := hA.1.1
  have hh : h ≤ N := hA.1.2
  have hA4 := hA.mono (show N ≤ N + 4000 by omega)
  obtain ⟨hB, hO, hNG, hAC⟩ := Snd_of hS
  have hBa := Bas_of hB hO
  have hB0 := hB
  obtain ⟨b1, b2, b3, b4, b5, b6, b7, b8, b9⟩ := hB
  have n1 : (jI 1 = jI 0) = False := jI_nz (by decide) (by decide)
  have n2 : (jI 2 = jI 0) = False := jI_nz (by decide) (by decide)
  have n3 : (jI 3 = jI 0) = False := jI_nz (by decide) (by decide)
  have hks : k + 1 ≤ 603072 ∧ s + 6 ≤ 7207017 := by omega
  have hks2 : k + 1 + 0 ≤ 603072 ∧ s + 6 + 0 ≤ 7207017 := by omega
  simp (disch := first | assumption | omega) only [s_214_715, s_214_716, s_214_717, s_214_719, s_214_720, s_214_721, s_214_722, s_214_723, s_214_725, s_214_726, s_214_727, s_214_728, s_214_729, r_214_729, s_214_732, s_214_734, s_214_735, s_214_736, s_214_738, s_214_739, s_214_740, s_214_741, s_214_742, s_214_744, s_214_745, s_214_746, s_214_747, r_214_747, s_214_750, s_214_752, s_214_753, r_214_753, s_214_756, s_214_758, s_214_761, s_214_762, s_214_763, s_214_765, s_214_768, s_214_769, s_214_770, s_214_771, s_214_773, s_214_774, s_214_775, s_214_778, s_214_779, s_214_780, jI_mul, jI_add, jI_tnc, jI_ixT, true_and, and_true, bZ_0, bZ_1, bZ_b, jI_nz, jI_div, jI_rem, jI_mod, Nat.add_zero, bI_if, not_false_iff, if_true, if_false, eq_self, hsc]
  refine w_complain hG hC (fun q => ?_) (fun q q1 q2 => ?_) (fun a q q1 q2 ha e1 e2 hno σ1 hC1 p1 => ?_) (fun q q1 q2 hno h8 σ1 hC1 p1 => ?_) (fun a b ha hb ea eb q2 hno h8 σ1 hC1 p1 => ?_)
  · skip
    simp (disch := first | assumption | omega) only [s_214_715, s_214_716, s_214_717, s_214_719, s_214_720, s_214_721, s_214_722, s_214_723, s_214_725, s_214_726, s_214_727, s_214_728, s_214_729, r_214_729, s_214_732, s_214_734, s_214_735, s_214_736, s_214_738, s_214_739, s_214_740, s_214_741, s_214_742, s_214_744, s_214_745, s_214_746, s_214_747, r_214_747, s_214_750, s_214_752, s_214_753, r_214_753, s_214_756, s_214_758, s_214_761, s_214_762, s_214_763, s_214_765, s_214_768, s_214_769, s_214_770, s_214_771, s_214_773, s_214_774, s_214_775, s_214_778, s_214_779, s_214_780, jI_mul, jI_add, jI_tnc, jI_ixT, true_and, and_true, bZ_0, bZ_1, bZ_b, jI_nz, jI_div, jI_rem, jI_mod, Nat.add_zero, bI_if, not_false_iff, if_true, if_false, eq_self, hsc]
    have e9 : σ 369 = g := (hR).1
    have e6 : σ 368 6 = jI H.length := (hR).2.1.2.1
    have el : H.length ≤ 8 := (hR).2.1.1
    have e7 : σ 368 7 = jI 0 := (hR).2.2.2.2.1
    rw [MM_MG e9]
    refine m_complain b2 b6 b3 b7 (wi := false) e7 e6 el (fun _ => ?_) (fun q1 q2 => absurd ⟨q1, q2⟩ q) (fun a q1 q2 => absurd ⟨q1, q2⟩ q) (fun q1 q2 => absurd ⟨q1, q2⟩ q) (fun q1 q2 => absurd ⟨q1, q2⟩ q)
    obtain ⟨a1, a2, a3⟩ := RI_code (v := jI 1) hR
    dsimp only at a1 a2 a3
    simp (disch := first | assumption | omega) only [s_214_715, s_214_716, s_214_717, s_214_719, s_214_720, s_214_721, s_214_722, s_214_723, s_214_725, s_214_726, s_214_727, s_214_728, s_214_729, r_214_729, s_214_732, s_214_734, s_214_735, s_214_736, s_214_738, s_214_739, s_214_740, s_214_741, s_214_742, s_214_744, s_214_745, s_214_746, s_214_747, r_214_747, s_214_750, s_214_752, s_214_753, r_214_753, s_214_756, s_214_758, s_214_761, s_214_762, s_214_763, s_214_765, s_214_768, s_214_769, s_214_770, s_214_771, s_214_773, s_214_774, s_214_775, s_214_778, s_214_779, s_214_780, jI_mul, jI_add, jI_tnc, jI_ixT, true_and, and_true, bZ_0, bZ_1, bZ_b, jI_nz, jI_div, jI_rem, jI_mod, Nat.add_zero, bI_if, not_false_iff, if_true, if_false, eq_self, m_thrown, a2, n1, if_true, if_false]
    exact HN _ _ _ _ _ _ _ _ _ ⟨CI_pr hG hC a3, a1, hA4⟩ ((a3 SCR (Or.inr SCR_hi)).trans hsc) (by omega) (by omega)
  · skip
    simp (disch := first | assumption | omega) only [s_214_715, s_214_716, s_214_717, s_214_719, s_214_720, s_214_721, s_214_722, s_214_723, s_214_725, s_214_726, s_214_727, s_214_728, s_214_729, r_214_729, s_214_732, s_214_734, s_214_735, s_214_736, s_214_738, s_214_739, s_214_740, s_214_741, s_214_742, s_214_744, s_214_745, s_214_746, s_214_747, r_214_747, s_214_750, s_214_752, s_214_753, r_214_753, s_214_756, s_214_758, s_214_761, s_214_762, s_214_763, s_214_765, s_214_768, s_214_769, s_214_770, s_214_771, s_214_773, s_214_774, s_214_775, s_214_778, s_214_779, s_214_780, jI_mul, jI_add, jI_tnc, jI_ixT, true_and, and_true, bZ_0, bZ_1, bZ_b, jI_nz, jI_div, jI_rem, jI_mod, Nat.add_zero, bI_if, not_false_iff, if_true, if_false, eq_self, hsc]
    have e9 : σ 369 = g := (hR).1
    have e6 : σ 368 6 = jI H.length := (hR).2.1.2.1
    have el : H.length ≤ 8 := (hR).2.1.1
    have e7 : σ 368 7 = jI 0 := (hR).2.2.2.2.1
    rw [MM_MG e9]
    refine m_complain b2 b6 b3 b7 (wi := false) e7 e6 el (fun q' => absurd ⟨q, q1⟩ q') (fun _ _ _ => ?_) (fun a _ _ q' => absurd q2 q') (fun _ _ q' => absurd q2 q') (fun _ _ q' => absurd q2 q')
    obtain ⟨a1, a2, a3⟩ := RI_code (v := jI 2) hR
    dsimp only at a1 a2 a3
    simp (disch := first | assumption | omega) only [s_214_715, s_214_716, s_214_717, s_214_719, s_214_720, s_214_721, s_214_722, s_214_723, s_214_725, s_214_726, s_214_727, s_214_728, s_214_729, r_214_729, s_214_732, s_214_734, s_214_735, s_214_736, s_214_738, s_214_739, s_214_740, s_214_741, s_214_742, s_214_744, s_214_745, s_214_746, s_214_747, r_214_747, s_214_750, s_214_752, s_214_753, r_214_753, s_214_756, s_214_758, s_214_761, s_214_762, s_214_763, s_214_765, s_214_768, s_214_769, s_214_770, s_214_771, s_214_773, s_214_774, s_214_775, s_214_778, s_214_779, s_214_780, jI_mul, jI_add, jI_tnc, jI_ixT, true_and, and_true, bZ_0, bZ_1, bZ_b, jI_nz, jI_div, jI_rem, jI_mod, Nat.add_zero, bI_if, not_false_iff, if_true, if_false, eq_self, m_thrown, a2, n2, if_true, if_false]
    exact HN _ _ _ _ _ _ _ _ _ ⟨CI_pr hG hC a3, a1, hA4⟩ ((a3 SCR (Or.inr SCR_hi)).trans hsc) (by omega) (by omega)
  · skip
    have hR1 := RI_pc hR p1
    have hsc1 : σ1 SCR = scr := (p1 SCR (by have := SCR_hi; omega)).trans hsc
    have e84 : ∀ j, 183 + 2 * j + 1 = 184 + 2 * j := fun j => by omega
    simp (disch := first | assumption | omega) only [s_214_715, s_214_716, s_214_717, s_214_719, s_214_720, s_214_721, s_214_722, s_214_723, s_214_725, s_214_726, s_214_727, s_214_728, s_214_729, r_214_729, s_214_732, s_214_734, s_214_735, s_214_736, s_214_738, s_214_739, s_214_740, s_214_741, s_214_742, s_214_744, s_214_745, s_214_746, s_214_747, r_214_747, s_214_750, s_214_752, s_214_753, r_214_753, s_214_756, s_214_758, s_214_761, s_214_762, s_214_763, s_214_765, s_214_768, s_214_769, s_214_770, s_214_771, s_214_773, s_214_774, s_214_775, s_214_778, s_214_779, s_214_780, jI_mul, jI_add, jI_tnc, jI_ixT, true_and, and_true, bZ_0, bZ_1, bZ_b, jI_nz, jI_div, jI_rem, jI_mod, Nat.add_zero, bI_if, not_false_iff, if_true, if_false, eq_self, hsc1]
    have e9 : σ1 369 = g := (hR1).1
    have e6 : σ1 368 6 = jI H.length := (hR1).2.1.2.1
    have el : H.length ≤ 8 := (hR1).2.1.1
    have e7 : σ1 368 7 = jI 0 := (hR1).2.2.2.2.1
    rw [MM_MG e9]
    refine m_complain b2 b6 b3 b7 (wi := false) e7 e6 el (fun q' => absurd ⟨q, q1⟩ q') (fun _ _ q' => absurd q' q2) (fun a' _ _ _ ha' e1' e2' hno' => ?_) (fun _ _ _ hno' _ => absurd ⟨e1, by rw [e84]; exact e2⟩ (hno' a ha)) (fun _ _ _ hno' _ => absurd ⟨e1, by rw [e84]; exact e2⟩ (hno' a ha))
    obtain rfl : a = a' := by
      rcases Nat.lt_trichotomy a' a with l | l | l
      · exact absurd ⟨e1', by rw [← e84]; exact e2'⟩ (hno a' l)
      · exact l.symm
      · exact absurd ⟨e1, by rw [e84]; exact e2⟩ (hno' a l)
    have hA5 : AllG (N + 4000) ((g, oh, ng, nd, nc, h), H, sv, jI 2, jI a, c, len, er) := hA4
    obtain ⟨a1, a2, a3⟩ := RI_ref (p := jI 3) (w := jI 2) (d := jI a) hR1
    unfold RFx at a1 a2 a3
    dsimp only at a1 a2 a3
    simp (disch := first | assumption | omega) only [s_214_715, s_214_716, s_214_717, s_214_719, s_214_720, s_214_721, s_214_722, s_214_723, s_214_725, s_214_726, s_214_727, s_214_728, s_214_729, r_214_729, s_214_732, s_214_734, s_214_735, s_214_736, s_214_738, s_214_739, s_214_740, s_214_741, s_214_742, s_214_744, s_214_745, s_214_746, s_214_747, r_214_747, s_214_750, s_214_752, s_214_753, r_214_753, s_214_756, s_214_758, s_214_761, s_214_762, s_214_763, s_214_765, s_214_768, s_214_769, s_214_770, s_214_771, s_214_773, s_214_774, s_214_775, s_214_778, s_214_779, s_214_780, jI_mul, jI_add, jI_tnc, jI_ixT, true_and, and_true, bZ_0, bZ_1, bZ_b, jI_nz, jI_div, jI_rem, jI_mod, Nat.add_zero, bI_if, not_false_iff, if_true, if_false, eq_self, m_thrown, a2, n3, if_true, if_false]
    exact HN _ _ _ _ _ _ _ _ _ ⟨CI_pr (AllG.gd hA5) hC1 a3, a1, hA5⟩ ((a3 SCR (Or.inr SCR_hi)).trans hsc1) (by omega) (by omega)
  · skip
    have hR1 := RI_pc hR p1
    have hsc1 : σ1 SCR = scr := (p1 SCR (by have := SCR_hi; omega)).trans hsc
    have e84 : ∀ j, 183 + 2 * j + 1 = 184 + 2 * j := fun j => by omega
    simp (disch := first | assumption | omega) only [s_214_715, s_214_716, s_214_717, s_214_719, s_214_720, s_214_721, s_214_722, s_214_723, s_214_725, s_214_726, s_214_727, s_214_728, s_214_729, r_214_729, s_214_732, s_214_734, s_214_735, s_214_736, s_214_738, s_214_739, s_214_740, s_214_741, s_214_742, s_214_744, s_214_745, s_214_746, s_214_747, r_214_747, s_214_750, s_214_752, s_214_753, r_214_753, s_214_756, s_214_758, s_214_761, s_214_762, s_214_763, s_214_765, s_214_768, s_214_769, s_214_770, s_214_771, s_214_773, s_214_774, s_214_775, s_214_778, s_214_779, s_214_780, jI_mul, jI_add, jI_tnc, jI_ixT, true_and, and_true, bZ_0, bZ_1, bZ_b, jI_nz, jI_div, jI_rem, jI_mod, Nat.add_zero, bI_if, not_false_iff, if_true, if_false, eq_self, hsc1]
    have e9 : σ1 369 = g := (hR1).1
    have e6 : σ1 368 6 = jI H.length := (hR1).2.1.2.1
    have el : H.length ≤ 8 := (hR1).2.1.1
    have e7 : σ1 368 7 = jI 0 := (hR1).2.2.2.2.1
    rw [MM_MG e9]
    refine m_complain b2 b6 b3 b7 (wi := false) e7 e6 el (fun q' => absurd ⟨q, q1⟩ q') (fun _ _ q' => absurd q' q2) (fun a' _ _ _ ha' e1' e2' _ => absurd ⟨e1', by rw [← e84]; exact e2'⟩ (hno a' ha')) (fun _ _ _ _ _ => ?_) (fun _ _ _ _ q' => absurd q' (by omega))
    have hA5 : AllG (N + 4000) ((g, oh, ng, nd, nc, h), H, sv, jI 1, jI 8, c, len, er) := hA4
    obtain ⟨a1, a2, a3⟩ := RI_ref (p := jI 3) (w := jI 1) (d := jI 8) hR1
    unfold RFx at a1 a2 a3
    dsimp only at a1 a2 a3
    simp (disch := first | assumption | omega) only [s_214_715, s_214_716, s_214_717, s_214_719, s_214_720, s_214_721, s_214_722, s_214_723, s_214_725, s_214_726, s_214_727, s_214_728, s_214_729, r_214_729, s_214_732, s_214_734, s_214_735, s_214_736, s_214_738, s_214_739, s_214_740, s_214_741, s_214_742, s_214_744, s_214_745, s_214_746, s_214_747, r_214_747, s_214_750, s_214_752, s_214_753, r_214_753, s_214_756, s_214_758, s_214_761, s_214_762, s_214_763, s_214_765, s_214_768, s_214_769, s_214_770, s_214_771, s_214_773, s_214_774, s_214_775, s_214_778, s_214_779, s_214_780, jI_mul, jI_add, jI_tnc, jI_ixT, true_and, and_true, bZ_0, bZ_1, bZ_b, jI_nz, jI_div, jI_rem, jI_mod, Nat.add_zero, bI_if, not_false_iff, if_true, if_false, eq_self, m_thrown, a2, n3, if_true, if_false]
    exact HN _ _ _ _ _ _ _ _ _ ⟨CI_pr (AllG.gd hA5) hC1 a3, a1, hA5⟩ ((a3 SCR (Or.inr SCR_hi)).trans hsc1) (by omega) (by omega)
  · skip
    have hR1 := RI_pc hR p1
    have hsc1 : σ1 SCR = scr := (p1 SCR (by have := SCR_hi; omega)).trans hsc
    have e84 : ∀ j, 183 + 2 * j + 1 = 184 + 2 * j := fun j => by omega
    have hS1 : Snd (cplS g nc (scr (i + 1)) (scr (i + 2)), oh, ng, nd, nc + 1, h) := by rw [ea, eb]; exact snd_cpl hS h8 ha hb
    have hA1 : AllG (N + 4000) ((cplS g nc (scr (i + 1)) (scr (i + 2)), oh, ng, nd, nc + 1, h), ((g, oh, ng, nd, nc, h) :: H).take 8, sv, y0, d0, c, len, er) := hA.keep (by omega) ⟨hS1, by dsimp only; omega⟩
    simp (disch := first | assumption | omega) only [s_214_715, s_214_716, s_214_717, s_214_719, s_214_720, s_214_721, s_214_722, s_214_723, s_214_725, s_214_726, s_214_727, s_214_728, s_214_729, r_214_729, s_214_732, s_214_734, s_214_735, s_214_736, s_214_738, s_214_739, s_214_740, s_214_741, s_214_742, s_214_744, s_214_745, s_214_746, s_214_747, r_214_747, s_214_750, s_214_752, s_214_753, r_214_753, s_214_756, s_214_758, s_214_761, s_214_762, s_214_763, s_214_765, s_214_768, s_214_769, s_214_770, s_214_771, s_214_773, s_214_774, s_214_775, s_214_778, s_214_779, s_214_780, jI_mul, jI_add, jI_tnc, jI_ixT, true_and, and_true, bZ_0, bZ_1, bZ_b, jI_nz, jI_div, jI_rem, jI_mod, Nat.add_zero, bI_if, not_false_iff, if_true, if_false, eq_self, hsc1]
    have e9 : σ1 369 = g := (hR1).1
    have e6 : σ1 368 6 = jI H.length := (hR1).2.1.2.1
    have el : H.length ≤ 8 := (hR1).2.1.1
    have e7 : σ1 368 7 = jI 0 := (hR1).2.2.2.2.1
    rw [MM_MG e9]
    refine m_complain b2 b6 b3 b7 (wi := false) e7 e6 el (fun q' => absurd ⟨hs_mk ea ha b2, hs_mk eb hb b2⟩ q') (fun _ _ q' => absurd q' q2) (fun a' _ _ _ ha' e1' e2' _ => absurd ⟨e1', by rw [← e84]; exact e2'⟩ (hno a' ha')) (fun _ _ _ _ q' => absurd q' (by omega)) (fun _ _ _ _ _ => ?_)
    obtain ⟨a1, a2, a3⟩ := RI_keep (s' := (cplS g nc (scr (i + 1)) (scr (i + 2)), oh, ng, nd, nc + 1, h)) (τ := _) hR1 FR.refl
    dsimp only at a1 a2 a3
    simp (disch := first | assumption | omega) only [s_214_715, s_214_716, s_214_717, s_214_719, s_214_720, s_214_721, s_214_722, s_214_723, s_214_725, s_214_726, s_214_727, s_214_728, s_214_729, r_214_729, s_214_732, s_214_734, s_214_735, s_214_736, s_214_738, s_214_739, s_214_740, s_214_741, s_214_742, s_214_744, s_214_745, s_214_746, s_214_747, r_214_747, s_214_750, s_214_752, s_214_753, r_214_753, s_214_756, s_214_758, s_214_761, s_214_762, s_214_763, s_214_765, s_214_768, s_214_769, s_214_770, s_214_771, s_214_773, s_214_774, s_214_775, s_214_778, s_214_779, s_214_780, jI_mul, jI_add, jI_tnc, jI_ixT, true_and, and_true, bZ_0, bZ_1, bZ_b, jI_nz, jI_div, jI_rem, jI_mod, Nat.add_zero, bI_if, not_false_iff, if_true, if_false, eq_self, m_thrown, a2, u2_lo, lgS, if_true, if_false]
    exact HN _ _ _ _ _ _ _ _ _ ⟨CI_pr (AllG.gd hA1) hC1 a3, a1, hA1⟩ ((a3 SCR (Or.inr SCR_hi)).trans hsc1) (by omega) (by omega)

theorem L_repair (hL : LInv N σ G) (hN : N ≤ 100000000) (hi : i + 4 < Ln) (hLn : Ln ≤ 100000) (hsc : σ SCR = scr) (hk : k ≤ 603000) (hs : s ≤ 7207000) (HN : NXT N Ln i k s scr K) :
    Ev 214 (783, [.ref SCR, .ref 0, .ref 368, .ref 377, .ref 378, .int (jI i), v6, v7, v8], [], k, s, MM Ln σ lo db) K := by
  obtain ⟨hC, hR, hA⟩ := hL
  have hG := hA.gd
  obtain ⟨⟨g, oh, ng, nd, nc, h⟩, H, sv, y0, d0, c, len, er⟩ := G
  have hS : Snd (g, oh, ng, nd, nc, h) := hA.1.1
  have hh : h ≤ N := hA.1.2
  have hA4 := hA.mono (show N ≤ N + 4000 by omega)
  obtain ⟨hB, hO, hNG, hAC⟩ := Snd_of hS
  have hBa := Bas_of hB hO
  have hB0 := hB
  obtain ⟨b1, b2, b3, b4, b5, b6, b7, b8, b9⟩ := hB
  have n1 : (jI 1 = jI 0) = False := jI_nz (by decide) (by decide)
  have n2 : (jI 2 = jI 0) = False := jI_nz (by decide) (by decide)
  have n3 : (jI 3 = jI 0) = False := jI_nz (by decide) (by decide)
  have hks : k + 1 ≤ 603072 ∧ s + 6 ≤ 7207017 := by omega
  have hks2 : k + 1 + 0 ≤ 603072 ∧ s + 6 + 0 ≤ 7207017 := by omega
  simp (disch := first | assumption | omega) only [s_214_783, s_214_784, s_214_785, s_214_787, s_214_788, s_214_789, s_214_790, s_214_791, r_214_791, s_214_794, s_214_796, s_214_797, s_214_798, s_214_800, s_214_801, s_214_802, s_214_803, r_214_803, s_214_806, s_214_808, s_214_809, r_214_809, s_214_812, s_214_814, s_214_817, s_214_818, s_214_819, s_214_821, s_214_824, s_214_825, s_214_826, s_214_827, s_214_829, s_214_830, s_214_831, s_214_834, s_214_835, s_214_836, jI_mul, jI_add, jI_tnc, jI_ixT, true_and, and_true, bZ_0, bZ_1, bZ_b, jI_nz, jI_div, jI_rem, jI_mod, Nat.add_zero, bI_if, not_false_iff, if_true, if_false, eq_self, hsc]
  refine w_repair hG hC (fun q => ?_) (fun a ha ea q3 σ1 hC1 p1 => ?_) (fun a ha ea q3 q4 σ1 hC1 p1 => ?_) (fun a ha ea q3 q4 q5 σ1 hC1 p1 => ?_) (fun a ha ea q3 q4 q5 σ1 hC1 p1 => ?_)
  · skip
    simp (disch := first | assumption | omega) only [s_214_783, s_214_784, s_214_785, s_214_787, s_214_788, s_214_789, s_214_790, s_214_791, r_214_791, s_214_794, s_214_796, s_214_797, s_214_798, s_214_800, s_214_801, s_214_802, s_214_803, r_214_803, s_214_806, s_214_808, s_214_809, r_214_809, s_214_812, s_214_814, s_214_817, s_214_818, s_214_819, s_214_821, s_214_824, s_214_825, s_214_826, s_214_827, s_214_829, s_214_830, s_214_831, s_214_834, s_214_835, s_214_836, jI_mul, jI_add, jI_tnc, jI_ixT, true_and, and_true, bZ_0, bZ_1, bZ_b, jI_nz, jI_div, jI_rem, jI_mod, Nat.add_zero, bI_if, not_false_iff, if_true, if_false, eq_self, hsc]
    have e9 : σ 369 = g := (hR).1
    have e6 : σ 368 6 = jI H.length := (hR).2.1.2.1
    have el : H.length ≤ 8 := (hR).2.1.1
    have e7 : σ 368 7 = jI 0 := (hR).2.2.2.2.1
    rw [MM_MG e9]
    refine m_repair b1 b5 b2 b6 (wi := false) e7 e6 el (fun _ => ?_) (fun a ha ea => absurd (hs_mk ea ha (by omega)) q) (fun a ha ea => absurd (hs_mk ea ha (by omega)) q) (fun a ha ea => absurd (hs_mk ea ha (by omega)) q) (fun a ha ea => absurd (hs_mk ea ha (by omega)) q)
    obtain ⟨a1, a2, a3⟩ := RI_code (v := jI 1) hR
    dsimp only at a1 a2 a3
    simp (disch := first | assumption | omega) only [s_214_783, s_214_784, s_214_785, s_214_787, s_214_788, s_214_789, s_214_790, s_214_791, r_214_791, s_214_794, s_214_796, s_214_797, s_214_798, s_214_800, s_214_801, s_214_802, s_214_803, r_214_803, s_214_806, s_214_808, s_214_809, r_214_809, s_214_812, s_214_814, s_214_817, s_214_818, s_214_819, s_214_821, s_214_824, s_214_825, s_214_826, s_214_827, s_214_829, s_214_830, s_214_831, s_214_834, s_214_835, s_214_836, jI_mul, jI_add, jI_tnc, jI_ixT, true_and, and_true, bZ_0, bZ_1, bZ_b, jI_nz, jI_div, jI_rem, jI_mod, Nat.add_zero, bI_if, not_false_iff, if_true, if_false, eq_self, m_thrown, a2, n1, if_true, if_false]
    exact HN _ _ _ _ _ _ _ _ _ ⟨CI_pr hG hC a3, a1, hA4⟩ ((a3 SCR (Or.inr SCR_hi)).trans hsc) (by omega) (by omega)
  · skip
    have hR1 := RI_pc hR p1
    have hsc1 : σ1 SCR = scr := (p1 SCR (by have := SCR_hi; omega)).trans hsc
    have hu : ∀ a', a' < ng → scr (i + 1) = jI a' → a = a' := fun a' h1 h2 => jI_c ea h2 (by omega) (by omega)
    simp (disch := first | assumption | omega) only [s_214_783, s_214_784, s_214_785, s_214_787, s_214_788, s_214_789, s_214_790, s_214_791, r_214_791, s_214_794, s_214_796, s_214_797, s_214_798, s_214_800, s_214_801, s_214_802, s_214_803, r_214_803, s_214_806, s_214_808, s_214_809, r_214_809, s_214_812, s_214_814, s_214_817, s_214_818, s_214_819, s_214_821, s_214_824, s_214_825, s_214_826, s_214_827, s_214_829, s_214_830, s_214_831, s_214_834, s_214_835, s_214_836, jI_mul, jI_add, jI_tnc, jI_ixT, true_and, and_true, bZ_0, bZ_1, bZ_b, jI_nz, jI_div, jI_rem, jI_mod, Nat.add_zero, bI_if, not_false_iff, if_true, if_false, eq_self, hsc1]
    have e9 : σ1 369 = g := (hR1).1
    have e6 : σ1 368 6 = jI H.length := (hR1).2.1.2.1
    have el : H.length ≤ 8 := (hR1).2.1.1
    have e7 : σ1 368 7 = jI 0 := (hR1).2.2.2.2.1
    rw [MM_MG e9]
    refine m_repair b1 b5 b2 b6 (wi := false) e7 e6 el (fun q' => absurd (hs_mk ea ha (by omega)) q') (fun a' ha' ea' y3 => ?_) (fun a' ha' ea' y3 => by obtain rfl := hu a' ha' ea'; exact absurd q3 y3) (fun a' ha' ea' y3 => by obtain rfl := hu a' ha' ea'; exact absurd q3 y3) (fun a' ha' ea' y3 => by obtain rfl := hu a' ha' ea'; exact absurd q3 y3) 
    obtain rfl := hu a' ha' ea'
    have hA5 : AllG (N + 4000) ((g, oh, ng, nd, nc, h), H, sv, jI 3, jI a, c, len, er) := hA4
    obtain ⟨a1, a2, a3⟩ := RI_ref (p := jI 2) (w := jI 3) (d := jI a) hR1
    unfold RFx at a1 a2 a3
    dsimp only at a1 a2 a3
    simp (disch := first | assumption | omega) only [s_214_783, s_214_784, s_214_785, s_214_787, s_214_788, s_214_789, s_214_790, s_214_791, r_214_791, s_214_794, s_214_796, s_214_797, s_214_798, s_214_800, s_214_801, s_214_802, s_214_803, r_214_803, s_214_806, s_214_808, s_214_809, r_214_809, s_214_812, s_214_814, s_214_817, s_214_818, s_214_819, s_214_821, s_214_824, s_214_825, s_214_826, s_214_827, s_214_829, s_214_830, s_214_831, s_214_834, s_214_835, s_214_836, jI_mul, jI_add, jI_tnc, jI_ixT, true_and, and_true, bZ_0, bZ_1, bZ_b, jI_nz, jI_div, jI_rem, jI_mod, Nat.add_zero, bI_if, not_false_iff, if_true, if_false, eq_self, m_thrown, a2, n2, if_true, if_false]
    exact HN _ _ _ _ _ _ _ _ _ ⟨CI_pr (AllG.gd hA5) hC1 a3, a1, hA5⟩ ((a3 SCR (Or.inr SCR_hi)).trans hsc1) (by omega) (by omega)
  · skip
    have hR1 := RI_pc hR p1
    have hsc1 : σ1 SCR = scr := (p1 SCR (by have := SCR_hi; omega)).trans hsc
    have hu : ∀ a', a' < ng → scr (i + 1) = jI a' → a = a' := fun a' h1 h2 => jI_c ea h2 (by omega) (by omega)
    simp (disch := first | assumption | omega) only [s_214_783, s_214_784, s_214_785, s_214_787, s_214_788, s_214_789, s_214_790, s_214_791, r_214_791, s_214_794, s_214_796, s_214_797, s_214_798, s_214_800, s_214_801, s_214_802, s_214_803, r_214_803, s_214_806, s_214_808, s_214_809, r_214_809, s_214_812, s_214_814, s_214_817, s_214_818, s_214_819, s_214_821, s_214_824, s_214_825, s_214_826, s_214_827, s_214_829, s_214_830, s_214_831, s_214_834, s_214_835, s_214_836, jI_mul, jI_add, jI_tnc, jI_ixT, true_and, and_true, bZ_0, bZ_1, bZ_b, jI_nz, jI_div, jI_rem, jI_mod, Nat.add_zero, bI_if, not_false_iff, if_true, if_false, eq_self, hsc1]
    have e9 : σ1 369 = g := (hR1).1
    have e6 : σ1 368 6 = jI H.length := (hR1).2.1.2.1
    have el : H.length ≤ 8 := (hR1).2.1.1
    have e7 : σ1 368 7 = jI 0 := (hR1).2.2.2.2.1
    rw [MM_MG e9]
    refine m_repair b1 b5 b2 b6 (wi := false) e7 e6 el (fun q' => absurd (hs_mk ea ha (by omega)) q') (fun a' ha' ea' y3 => by obtain rfl := hu a' ha' ea'; exact absurd y3 q3) (fun a' ha' ea' y3 y4 => ?_) (fun a' ha' ea' y3 y4 => by obtain rfl := hu a' ha' ea'; exact absurd q4 y4) (fun a' ha' ea' y3 y4 => by obtain rfl := hu a' ha' ea'; exact absurd q4 y4) 
    obtain rfl := hu a' ha' ea'
    have hA5 : AllG (N + 4000) ((g, oh, ng, nd, nc, h), H, sv, jI 4, jI a, c, len, er) := hA4
    obtain ⟨a1, a2, a3⟩ := RI_ref (p := jI 2) (w := jI 4) (d := jI a) hR1
    unfold RFx at a1 a2 a3
    dsimp only at a1 a2 a3
    simp (disch := first | assumption | omega) only [s_214_783, s_214_784, s_214_785, s_214_787, s_214_788, s_214_789, s_214_790, s_214_791, r_214_791, s_214_794, s_214_796, s_214_797, s_214_798, s_214_800, s_214_801, s_214_802, s_214_803, r_214_803, s_214_806, s_214_808, s_214_809, r_214_809, s_214_812, s_214_814, s_214_817, s_214_818, s_214_819, s_214_821, s_214_824, s_214_825, s_214_826, s_214_827, s_214_829, s_214_830, s_214_831, s_214_834, s_214_835, s_214_836, jI_mul, jI_add, jI_tnc, jI_ixT, true_and, and_true, bZ_0, bZ_1, bZ_b, jI_nz, jI_div, jI_rem, jI_mod, Nat.add_zero, bI_if, not_false_iff, if_true, if_false, eq_self, m_thrown, a2, n2, if_true, if_false]
    exact HN _ _ _ _ _ _ _ _ _ ⟨CI_pr (AllG.gd hA5) hC1 a3, a1, hA5⟩ ((a3 SCR (Or.inr SCR_hi)).trans hsc1) (by omega) (by omega)
  · skip
    have hR1 := RI_pc hR p1
    have hsc1 : σ1 SCR = scr := (p1 SCR (by have := SCR_hi; omega)).trans hsc
    have hu : ∀ a', a' < ng → scr (i + 1) = jI a' → a = a' := fun a' h1 h2 => jI_c ea h2 (by omega) (by omega)
    simp (disch := first | assumption | omega) only [s_214_783, s_214_784, s_214_785, s_214_787, s_214_788, s_214_789, s_214_790, s_214_791, r_214_791, s_214_794, s_214_796, s_214_797, s_214_798, s_214_800, s_214_801, s_214_802, s_214_803, r_214_803, s_214_806, s_214_808, s_214_809, r_214_809, s_214_812, s_214_814, s_214_817, s_214_818, s_214_819, s_214_821, s_214_824, s_214_825, s_214_826, s_214_827, s_214_829, s_214_830, s_214_831, s_214_834, s_214_835, s_214_836, jI_mul, jI_add, jI_tnc, jI_ixT, true_and, and_true, bZ_0, bZ_1, bZ_b, jI_nz, jI_div, jI_rem, jI_mod, Nat.add_zero, bI_if, not_false_iff, if_true, if_false, eq_self, hsc1]
    have e9 : σ1 369 = g := (hR1).1
    have e6 : σ1 368 6 = jI H.length := (hR1).2.1.2.1
    have el : H.length ≤ 8 := (hR1).2.1.1
    have e7 : σ1 368 7 = jI 0 := (hR1).2.2.2.2.1
    rw [MM_MG e9]
    refine m_repair b1 b5 b2 b6 (wi := false) e7 e6 el (fun q' => absurd (hs_mk ea ha (by omega)) q') (fun a' ha' ea' y3 => by obtain rfl := hu a' ha' ea'; exact absurd y3 q3) (fun a' ha' ea' y3 y4 => by obtain rfl := hu a' ha' ea'; exact absurd y4 q4) (fun a' ha' ea' y3 y4 y5 => ?_) (fun a' ha' ea' y3 y4 y5 => by obtain rfl := hu a' ha' ea'; exact absurd q5 y5) 
    obtain rfl := hu a' ha' ea'
    have hA5 : AllG (N + 4000) ((g, oh, ng, nd, nc, h), H, sv, jI 5, jI 2 * g (15 + 10 * a + 1) - g 6 - rpSum g nd a nd, c, len, er) := hA4
    obtain ⟨a1, a2, a3⟩ := RI_ref (p := jI 2) (w := jI 5) (d := jI 2 * g (15 + 10 * a + 1) - g 6 - rpSum g nd a nd) hR1
    unfold RFx at a1 a2 a3
    dsimp only at a1 a2 a3
    simp (disch := first | assumption | omega) only [s_214_783, s_214_784, s_214_785, s_214_787, s_214_788, s_214_789, s_214_790, s_214_791, r_214_791, s_214_794, s_214_796, s_214_797, s_214_798, s_214_800, s_214_801, s_214_802, s_214_803, r_214_803, s_214_806, s_214_808, s_214_809, r_214_809, s_214_812, s_214_814, s_214_817, s_214_818, s_214_819, s_214_821, s_214_824, s_214_825, s_214_826, s_214_827, s_214_829, s_214_830, s_214_831, s_214_834, s_214_835, s_214_836, jI_mul, jI_add, jI_tnc, jI_ixT, true_and, and_true, bZ_0, bZ_1, bZ_b, jI_nz, jI_div, jI_rem, jI_mod, Nat.add_zero, bI_if, not_false_iff, if_true, if_false, eq_self, m_thrown, a2, n2, if_true, if_false]
    exact HN _ _ _ _ _ _ _ _ _ ⟨CI_pr (AllG.gd hA5) hC1 a3, a1, hA5⟩ ((a3 SCR (Or.inr SCR_hi)).trans hsc1) (by omega) (by omega)
  · skip
    have hR1 := RI_pc hR p1
    have hsc1 : σ1 SCR = scr := (p1 SCR (by have := SCR_hi; omega)).trans hsc
    have hu : ∀ a', a' < ng → scr (i + 1) = jI a' → a = a' := fun a' h1 h2 => jI_c ea h2 (by omega) (by omega)
    have hA1 : AllG (N + 4000) ((repS g nd a, oh, ng, nd, nc, h), ((g, oh, ng, nd, nc, h) :: H).take 8, sv, y0, d0, c, len, er) := hA.keep (by omega) ⟨snd_rep hS ha, by dsimp only; omega⟩
    simp (disch := first | assumption | omega) only [s_214_783, s_214_784, s_214_785, s_214_787, s_214_788, s_214_789, s_214_790, s_214_791, r_214_791, s_214_794, s_214_796, s_214_797, s_214_798, s_214_800, s_214_801, s_214_802, s_214_803, r_214_803, s_214_806, s_214_808, s_214_809, r_214_809, s_214_812, s_214_814, s_214_817, s_214_818, s_214_819, s_214_821, s_214_824, s_214_825, s_214_826, s_214_827, s_214_829, s_214_830, s_214_831, s_214_834, s_214_835, s_214_836, jI_mul, jI_add, jI_tnc, jI_ixT, true_and, and_true, bZ_0, bZ_1, bZ_b, jI_nz, jI_div, jI_rem, jI_mod, Nat.add_zero, bI_if, not_false_iff, if_true, if_false, eq_self, hsc1]
    have e9 : σ1 369 = g := (hR1).1
    have e6 : σ1 368 6 = jI H.length := (hR1).2.1.2.1
    have el : H.length ≤ 8 := (hR1).2.1.1
    have e7 : σ1 368 7 = jI 0 := (hR1).2.2.2.2.1
    rw [MM_MG e9]
    refine m_repair b1 b5 b2 b6 (wi := false) e7 e6 el (fun q' => absurd (hs_mk ea ha (by omega)) q') (fun a' ha' ea' y3 => by obtain rfl := hu a' ha' ea'; exact absurd y3 q3) (fun a' ha' ea' y3 y4 => by obtain rfl := hu a' ha' ea'; exact absurd y4 q4) (fun a' ha' ea' y3 y4 y5 => by obtain rfl := hu a' ha' ea'; exact absurd y5 q5) (fun a' ha' ea' y3 y4 y5 => ?_)
    obtain rfl := hu a' ha' ea'
    obtain ⟨a1, a2, a3⟩ := RI_keep (s' := (repS g nd a, oh, ng, nd, nc, h)) (τ := _) hR1 FR.refl
    dsimp only at a1 a2 a3
    simp (disch := first | assumption | omega) only [s_214_783, s_214_784, s_214_785, s_214_787, s_214_788, s_214_789, s_214_790, s_214_791, r_214_791, s_214_794, s_214_796, s_214_797, s_214_798, s_214_800, s_214_801, s_214_802, s_214_803, r_214_803, s_214_806, s_214_808, s_214_809, r_214_809, s_214_812, s_214_814, s_214_817, s_214_818, s_214_819, s_214_821, s_214_824, s_214_825, s_214_826, s_214_827, s_214_829, s_214_830, s_214_831, s_214_834, s_214_835, s_214_836, jI_mul, jI_add, jI_tnc, jI_ixT, true_and, and_true, bZ_0, bZ_1, bZ_b, jI_nz, jI_div, jI_rem, jI_mod, Nat.add_zero, bI_if, not_false_iff, if_true, if_false, eq_self, m_thrown, a2, u2_lo, lgS, if_true, if_false]
    exact HN _ _ _ _ _ _ _ _ _ ⟨CI_pr (AllG.gd hA1) hC1 a3, a1, hA1⟩ ((a3 SCR (Or.inr SCR_hi)).trans hsc1) (by omega) (by omega)

theorem L_pass (hL : LInv N σ G) (hN : N ≤ 100000000) (hi : i + 4 < Ln) (hLn : Ln ≤ 100000) (hsc : σ SCR = scr) (hk : k ≤ 603000) (hs : s ≤ 7207000) (HN : NXT N Ln i k s scr K) :
    Ev 214 (839, [.ref SCR, .ref 0, .ref 368, .ref 377, .ref 378, .int (jI i), v6, v7, v8], [], k, s, MM Ln σ lo db) K := by
  obtain ⟨hC, hR, hA⟩ := hL
  have hG := hA.gd
  obtain ⟨⟨g, oh, ng, nd, nc, h⟩, H, sv, y0, d0, c, len, er⟩ := G
  have hS : Snd (g, oh, ng, nd, nc, h) := hA.1.1
  have hh : h ≤ N := hA.1.2
  have hA4 := hA.mono (show N ≤ N + 4000 by omega)
  obtain ⟨hB, hO, hNG, hAC⟩ := Snd_of hS
  have hBa := Bas_of hB hO
  have hB0 := hB
  obtain ⟨b1, b2, b3, b4, b5, b6, b7, b8, b9⟩ := hB
  have n1 : (jI 1 = jI 0) = False := jI_nz (by decide) (by decide)
  have n2 : (jI 2 = jI 0) = False := jI_nz (by decide) (by decide)
  have n3 : (jI 3 = jI 0) = False := jI_nz (by decide) (by decide)
  have hks : k + 1 ≤ 603072 ∧ s + 6 ≤ 7207017 := by omega
  have hks2 : k + 1 + 0 ≤ 603072 ∧ s + 6 + 0 ≤ 7207017 := by omega
  simp (disch := first | assumption | omega) only [s_214_839, s_214_840, s_214_841, s_214_843, s_214_844, s_214_845, s_214_846, s_214_847, r_214_847, s_214_850, s_214_852, s_214_853, s_214_854, s_214_856, s_214_857, s_214_858, s_214_859, r_214_859, s_214_862, s_214_864, s_214_865, r_214_865, s_214_868, s_214_870, s_214_873, s_214_874, s_214_875, s_214_877, s_214_880, s_214_881, s_214_882, s_214_883, s_214_885, s_214_886, s_214_887, s_214_890, s_214_891, s_214_892, jI_mul, jI_add, jI_tnc, jI_ixT, true_and, and_true, bZ_0, bZ_1, bZ_b, jI_nz, jI_div, jI_rem, jI_mod, Nat.add_zero, bI_if, not_false_iff, if_true, if_false, eq_self, hsc]
  refine w_pass (by omega) hG hC (fun q => ?_) (fun n n0 n5 ev σ1 hC1 p1 => ?_)
  · skip
    simp (disch := first | assumption | omega) only [s_214_839, s_214_840, s_214_841, s_214_843, s_214_844, s_214_845, s_214_846, s_214_847, r_214_847, s_214_850, s_214_852, s_214_853, s_214_854, s_214_856, s_214_857, s_214_858, s_214_859, r_214_859, s_214_862, s_214_864, s_214_865, r_214_865, s_214_868, s_214_870, s_214_873, s_214_874, s_214_875, s_214_877, s_214_880, s_214_881, s_214_882, s_214_883, s_214_885, s_214_886, s_214_887, s_214_890, s_214_891, s_214_892, jI_mul, jI_add, jI_tnc, jI_ixT, true_and, and_true, bZ_0, bZ_1, bZ_b, jI_nz, jI_div, jI_rem, jI_mod, Nat.add_zero, bI_if, not_false_iff, if_true, if_false, eq_self, hsc]
    have e9 : σ 369 = g := (hR).1
    have e6 : σ 368 6 = jI H.length := (hR).2.1.2.1
    have el : H.length ≤ 8 := (hR).2.1.1
    have e7 : σ 368 7 = jI 0 := (hR).2.2.2.2.1
    rw [MM_MG e9]
    refine m_pass hBa (by omega) (wi := false) e7 e6 el (fun _ => ?_) (fun n σ' n0 n5 ev f => absurd (by rw [ev]; exact (rng_iff (by omega) (by omega) (by omega)).mpr ⟨n0, n5⟩) q)
    obtain ⟨a1, a2, a3⟩ := RI_code (v := jI 1) hR
    dsimp only at a1 a2 a3
    simp (disch := first | assumption | omega) only [s_214_839, s_214_840, s_214_841, s_214_843, s_214_844, s_214_845, s_214_846, s_214_847, r_214_847, s_214_850, s_214_852, s_214_853, s_214_854, s_214_856, s_214_857, s_214_858, s_214_859, r_214_859, s_214_862, s_214_864, s_214_865, r_214_865, s_214_868, s_214_870, s_214_873, s_214_874, s_214_875, s_214_877, s_214_880, s_214_881, s_214_882, s_214_883, s_214_885, s_214_886, s_214_887, s_214_890, s_214_891, s_214_892, jI_mul, jI_add, jI_tnc, jI_ixT, true_and, and_true, bZ_0, bZ_1, bZ_b, jI_nz, jI_div, jI_rem, jI_mod, Nat.add_zero, bI_if, not_false_iff, if_true, if_false, eq_self, m_thrown, a2, n1, if_true, if_false]
    exact HN _ _ _ _ _ _ _ _ _ ⟨CI_pr hG hC a3, a1, hA4⟩ ((a3 SCR (Or.inr SCR_hi)).trans hsc) (by omega) (by omega)
  · skip
    have hR1 := RI_pc hR p1
    have hsc1 : σ1 SCR = scr := (p1 SCR (by have := SCR_hi; omega)).trans hsc
    have hA1 : AllG (N + 4000) (((hoursS oh ng nd nc h g n).1, oh, ng, nd, (hoursS oh ng nd nc h g n).2, h + n), ((g, oh, ng, nd, nc, h) :: H).take 8, sv, y0, d0, c, len, er) := hA.keep (by omega) ⟨snd_hours hS (by omega), by dsimp only; omega⟩
    simp (disch := first | assumption | omega) only [s_214_839, s_214_840, s_214_841, s_214_843, s_214_844, s_214_845, s_214_846, s_214_847, r_214_847, s_214_850, s_214_852, s_214_853, s_214_854, s_214_856, s_214_857, s_214_858, s_214_859, r_214_859, s_214_862, s_214_864, s_214_865, r_214_865, s_214_868, s_214_870, s_214_873, s_214_874, s_214_875, s_214_877, s_214_880, s_214_881, s_214_882, s_214_883, s_214_885, s_214_886, s_214_887, s_214_890, s_214_891, s_214_892, jI_mul, jI_add, jI_tnc, jI_ixT, true_and, and_true, bZ_0, bZ_1, bZ_b, jI_nz, jI_div, jI_rem, jI_mod, Nat.add_zero, bI_if, not_false_iff, if_true, if_false, eq_self, hsc1]
    have e9 : σ1 369 = g := (hR1).1
    have e6 : σ1 368 6 = jI H.length := (hR1).2.1.2.1
    have el : H.length ≤ 8 := (hR1).2.1.1
    have e7 : σ1 368 7 = jI 0 := (hR1).2.2.2.2.1
    rw [MM_MG e9]
    refine m_pass hBa (by omega) (wi := false) e7 e6 el (fun q' => absurd (by rw [ev]; exact (rng_iff (by omega) (by omega) (by omega)).mpr ⟨n0, n5⟩) q') (fun n' σ2 n0' n5' ev' f => ?_)
    obtain rfl : n = n' := jI_c ev ev' (by omega) (by omega)
    obtain ⟨a1, a2, a3⟩ := RI_keep (s' := ((hoursS oh ng nd nc h g n).1, oh, ng, nd, (hoursS oh ng nd nc h g n).2, h + n)) (τ := σ2) hR1 f
    dsimp only at a1 a2 a3
    simp (disch := first | assumption | omega) only [s_214_839, s_214_840, s_214_841, s_214_843, s_214_844, s_214_845, s_214_846, s_214_847, r_214_847, s_214_850, s_214_852, s_214_853, s_214_854, s_214_856, s_214_857, s_214_858, s_214_859, r_214_859, s_214_862, s_214_864, s_214_865, r_214_865, s_214_868, s_214_870, s_214_873, s_214_874, s_214_875, s_214_877, s_214_880, s_214_881, s_214_882, s_214_883, s_214_885, s_214_886, s_214_887, s_214_890, s_214_891, s_214_892, jI_mul, jI_add, jI_tnc, jI_ixT, true_and, and_true, bZ_0, bZ_1, bZ_b, jI_nz, jI_div, jI_rem, jI_mod, Nat.add_zero, bI_if, not_false_iff, if_true, if_false, eq_self, m_thrown, a2, u2_lo, lgS, if_true, if_false]
    exact HN _ _ _ _ _ _ _ _ _ ⟨CI_pr (AllG.gd hA1) hC1 a3, a1, hA1⟩ ((a3 SCR (Or.inr SCR_hi)).trans hsc1) (by omega) (by omega)

end
