/-! THE LAW: the calls that only ask -/
set_option maxRecDepth 16384
section
variable {K : Ou → Me → Prop} {Ln : Nat} {σ σ' : Nat → Nat → Int32} {g : Gr} {lo : Nat → Nat → Int64} {db : Nat → Nat → UInt64} {oh : Nat → Nat → Bool} {ng nd nc h i k s N : Nat} {G : Ga} {scr : Nat → Int32} {v6 v7 v8 : Value}
theorem rng_mk {w : Int32} {n a b : Nat} (e : w = jI n) (h1 : a ≤ n) (h2 : n ≤ b) (hb : b < 100000) : rng w a b := by
  rw [e]; exact (rng_iff (by omega) (by omega) (by omega)).mpr ⟨h1, h2⟩
theorem FR_dry {τ : Nat → Nat → Int32} (f : FR (cpy (MG σ g) 369 0 373 0 199) τ) : (∀ a, a ≠ 375 → a ≠ 373 → a ≠ 368 → a ≠ 369 → τ a = σ a) ∧ ∀ j, j ≠ 16 → j ≠ 8 → τ 368 j = σ 368 j := by
  refine ⟨fun a h1 h2 h3 h4 => ?_, fun j h1 h2 => ?_⟩
  · rw [f.1 a h1 h3]; funext q; unfold cpy; rw [if_neg (fun e => h2 e.1), MG_of h4]
  · rw [f.2 j h1]; unfold cpy; rw [if_neg (fun e => absurd e.1 (by decide)), MG_o (by decide)]
theorem FR_u2 {τ : Nat → Nat → Int32} {v : Int32} (f : FR (u2 σ 368 8 v) τ) : (∀ a, a ≠ 375 → a ≠ 373 → a ≠ 368 → a ≠ 369 → τ a = σ a) ∧ ∀ j, j ≠ 16 → τ 368 j = u2 σ 368 8 v 368 j := by
  refine ⟨fun a h1 h2 h3 h4 => ?_, fun j h1 => f.2 j h1⟩
  rw [f.1 a h1 h3]; funext q; exact u2_na h3
theorem Tf_u2 {τ : Nat → Nat → Int32} {v : Int32} (f : Tf (u2 σ 368 8 v) τ) : (∀ a, a ≠ 375 → a ≠ 373 → a ≠ 368 → a ≠ 369 → τ a = σ a) ∧ ∀ j, j ≠ 16 → j ≠ 8 → τ 368 j = σ 368 j := by
  refine ⟨fun a h1 h2 h3 h4 => ?_, fun j h1 h2 => (f.2 j h1).trans (u2_nk h2)⟩
  rw [f.1 a h1 h2 h3 h4]; funext q; exact u2_na h3

theorem L_gateOf (hL : LInv N σ G) (hN : N ≤ 100000000) (hi : i + 4 < Ln) (hLn : Ln ≤ 100000) (hsc : σ SCR = scr) (hk : k ≤ 603000) (hs : s ≤ 7207000) (HN : NXT N Ln i k s scr K) :
    Ev 214 (895, [.ref SCR, .ref 0, .ref 368, .ref 377, .ref 378, .int (jI i), v6, v7, v8], [], k, s, MM Ln σ lo db) K := by
  obtain ⟨hC, hR, hA⟩ := hL
  have hG := hA.gd
  obtain ⟨⟨g, oh, ng, nd, nc, h⟩, H, sv, y0, d0, c, len, er⟩ := G
  have hS : Snd (g, oh, ng, nd, nc, h) := hA.1.1
  have hh : h ≤ N := hA.1.2
  have hA4 := hA.mono (show N ≤ N + 4000 by omega)
  obtain ⟨hB, hO, hNG, hAC⟩ := Snd_of hS
  have hBa := Bas_of hB hO
  have hB0 := hB
  obtain ⟨b1, b2, b3, b4, b5, b6, b7, b8, b9⟩ := hB
  have n1 : (jI 1 = jI 0) = False := jI_nz (by decide) (by decide)
  have n2 : (jI 2 = jI 0) = False := jI_nz (by decide) (by decide)
  have n3 : (jI 3 = jI 0) = False := jI_nz (by decide) (by decide)
  have hks : k + 1 ≤ 603072 ∧ s + 6 ≤ 7207017 := by omega
  have hks2 : k + 1 + 0 ≤ 603072 ∧ s + 6 + 0 ≤ 7207017 := by omega
  simp (disch := first | assumption | omega) only [s_214_895, s_214_896, s_214_897, s_214_899, s_214_900, s_214_901, s_214_902, s_214_903, s_214_905, s_214_906, s_214_907, s_214_908, s_214_909, r_214_909, s_214_912, s_214_914, s_214_915, s_214_916, s_214_918, s_214_919, s_214_920, s_214_921, s_214_922, s_214_924, s_214_925, s_214_926, s_214_927, r_214_927, s_214_930, s_214_932, s_214_933, r_214_933, s_214_936, s_214_938, s_214_941, s_214_942, s_214_943, s_214_945, s_214_948, s_214_949, s_214_950, s_214_951, s_214_953, s_214_954, s_214_955, s_214_958, s_214_959, s_214_960, jI_mul, jI_add, jI_tnc, jI_ixT, true_and, and_true, bZ_0, bZ_1, bZ_b, jI_nz, jI_div, jI_rem, jI_mod, Nat.add_zero, bI_if, not_false_iff, if_true, if_false, eq_self, hsc]
  refine w_gateOf (by omega) hG hC (fun q => ?_) (fun q q1 => ?_) (fun k n hk ek hn en => ?_)
  · skip
    simp (disch := first | assumption | omega) only [s_214_895, s_214_896, s_214_897, s_214_899, s_214_900, s_214_901, s_214_902, s_214_903, s_214_905, s_214_906, s_214_907, s_214_908, s_214_909, r_214_909, s_214_912, s_214_914, s_214_915, s_214_916, s_214_918, s_214_919, s_214_920, s_214_921, s_214_922, s_214_924, s_214_925, s_214_926, s_214_927, r_214_927, s_214_930, s_214_932, s_214_933, r_214_933, s_214_936, s_214_938, s_214_941, s_214_942, s_214_943, s_214_945, s_214_948, s_214_949, s_214_950, s_214_951, s_214_953, s_214_954, s_214_955, s_214_958, s_214_959, s_214_960, jI_mul, jI_add, jI_tnc, jI_ixT, true_and, and_true, bZ_0, bZ_1, bZ_b, jI_nz, jI_div, jI_rem, jI_mod, Nat.add_zero, bI_if, not_false_iff, if_true, if_false, eq_self, hsc]
    have e9 : σ 369 = g := (hR).1
    have e6 : σ 368 6 = jI H.length := (hR).2.1.2.1
    have el : H.length ≤ 8 := (hR).2.1.1
    have e7 : σ 368 7 = jI 0 := (hR).2.2.2.2.1
    rw [MM_MG e9]
    refine m_gateOf hBa (by omega) (fun _ => ?_) (fun q' => absurd q' q) (fun k n hk ek => absurd (hs_mk ek hk (by omega)) q)
    obtain ⟨a1, a2, a3⟩ := RI_code (v := jI 1) hR
    dsimp only at a1 a2 a3
    simp (disch := first | assumption | omega) only [s_214_895, s_214_896, s_214_897, s_214_899, s_214_900, s_214_901, s_214_902, s_214_903, s_214_905, s_214_906, s_214_907, s_214_908, s_214_909, r_214_909, s_214_912, s_214_914, s_214_915, s_214_916, s_214_918, s_214_919, s_214_920, s_214_921, s_214_922, s_214_924, s_214_925, s_214_926, s_214_927, r_214_927, s_214_930, s_214_932, s_214_933, r_214_933, s_214_936, s_214_938, s_214_941, s_214_942, s_214_943, s_214_945, s_214_948, s_214_949, s_214_950, s_214_951, s_214_953, s_214_954, s_214_955, s_214_958, s_214_959, s_214_960, jI_mul, jI_add, jI_tnc, jI_ixT, true_and, and_true, bZ_0, bZ_1, bZ_b, jI_nz, jI_div, jI_rem, jI_mod, Nat.add_zero, bI_if, not_false_iff, if_true, if_false, eq_self, m_thrown, a2, n1, if_true, if_false]
    exact HN _ _ _ _ _ _ _ _ _ ⟨CI_pr hG hC a3, a1, hA4⟩ ((a3 SCR (Or.inr SCR_hi)).trans hsc) (by omega) (by omega)
  · skip
    simp (disch := first | assumption | omega) only [s_214_895, s_214_896, s_214_897, s_214_899, s_214_900, s_214_901, s_214_902, s_214_903, s_214_905, s_214_906, s_214_907, s_214_908, s_214_909, r_214_909, s_214_912, s_214_914, s_214_915, s_214_916, s_214_918, s_214_919, s_214_920, s_214_921, s_214_922, s_214_924, s_214_925, s_214_926, s_214_927, r_214_927, s_214_930, s_214_932, s_214_933, r_214_933, s_214_936, s_214_938, s_214_941, s_214_942, s_214_943, s_214_945, s_214_948, s_214_949, s_214_950, s_214_951, s_214_953, s_214_954, s_214_955, s_214_958, s_214_959, s_214_960, jI_mul, jI_add, jI_tnc, jI_ixT, true_and, and_true, bZ_0, bZ_1, bZ_b, jI_nz, jI_div, jI_rem, jI_mod, Nat.add_zero, bI_if, not_false_iff, if_true, if_false, eq_self, hsc]
    have e9 : σ 369 = g := (hR).1
    have e6 : σ 368 6 = jI H.length := (hR).2.1.2.1
    have el : H.length ≤ 8 := (hR).2.1.1
    have e7 : σ 368 7 = jI 0 := (hR).2.2.2.2.1
    rw [MM_MG e9]
    refine m_gateOf hBa (by omega) (fun q' => absurd q q') (fun _ _ => ?_) (fun k n _ _ hn en => absurd (rng_mk en (Nat.zero_le _) (by omega) (by decide)) q1)
    obtain ⟨a1, a2, a3⟩ := RI_code (v := jI 2) hR
    dsimp only at a1 a2 a3
    simp (disch := first | assumption | omega) only [s_214_895, s_214_896, s_214_897, s_214_899, s_214_900, s_214_901, s_214_902, s_214_903, s_214_905, s_214_906, s_214_907, s_214_908, s_214_909, r_214_909, s_214_912, s_214_914, s_214_915, s_214_916, s_214_918, s_214_919, s_214_920, s_214_921, s_214_922, s_214_924, s_214_925, s_214_926, s_214_927, r_214_927, s_214_930, s_214_932, s_214_933, r_214_933, s_214_936, s_214_938, s_214_941, s_214_942, s_214_943, s_214_945, s_214_948, s_214_949, s_214_950, s_214_951, s_214_953, s_214_954, s_214_955, s_214_958, s_214_959, s_214_960, jI_mul, jI_add, jI_tnc, jI_ixT, true_and, and_true, bZ_0, bZ_1, bZ_b, jI_nz, jI_div, jI_rem, jI_mod, Nat.add_zero, bI_if, not_false_iff, if_true, if_false, eq_self, m_thrown, a2, n2, if_true, if_false]
    exact HN _ _ _ _ _ _ _ _ _ ⟨CI_pr hG hC a3, a1, hA4⟩ ((a3 SCR (Or.inr SCR_hi)).trans hsc) (by omega) (by omega)
  · skip
    simp (disch := first | assumption | omega) only [s_214_895, s_214_896, s_214_897, s_214_899, s_214_900, s_214_901, s_214_902, s_214_903, s_214_905, s_214_906, s_214_907, s_214_908, s_214_909, r_214_909, s_214_912, s_214_914, s_214_915, s_214_916, s_214_918, s_214_919, s_214_920, s_214_921, s_214_922, s_214_924, s_214_925, s_214_926, s_214_927, r_214_927, s_214_930, s_214_932, s_214_933, r_214_933, s_214_936, s_214_938, s_214_941, s_214_942, s_214_943, s_214_945, s_214_948, s_214_949, s_214_950, s_214_951, s_214_953, s_214_954, s_214_955, s_214_958, s_214_959, s_214_960, jI_mul, jI_add, jI_tnc, jI_ixT, true_and, and_true, bZ_0, bZ_1, bZ_b, jI_nz, jI_div, jI_rem, jI_mod, Nat.add_zero, bI_if, not_false_iff, if_true, if_false, eq_self, hsc]
    have e9 : σ 369 = g := (hR).1
    have e6 : σ 368 6 = jI H.length := (hR).2.1.2.1
    have el : H.length ≤ 8 := (hR).2.1.1
    have e7 : σ 368 7 = jI 0 := (hR).2.2.2.2.1
    rw [MM_MG e9]
    refine m_gateOf hBa (by omega) (fun q' => absurd (hs_mk ek hk (by omega)) q') (fun _ q' => absurd (rng_mk en (Nat.zero_le _) (by omega) (by decide)) q') (fun k' n' hk' ek' hn' en' => ?_)
    obtain rfl : k = k' := jI_c ek ek' (by omega) (by omega)
    obtain rfl : n = n' := jI_c en en' (by omega) (by omega)
    obtain ⟨a1, a2, a3⟩ := RI_code (v := jI 0) hR
    dsimp only at a1 a2 a3
    simp (disch := first | assumption | omega) only [s_214_895, s_214_896, s_214_897, s_214_899, s_214_900, s_214_901, s_214_902, s_214_903, s_214_905, s_214_906, s_214_907, s_214_908, s_214_909, r_214_909, s_214_912, s_214_914, s_214_915, s_214_916, s_214_918, s_214_919, s_214_920, s_214_921, s_214_922, s_214_924, s_214_925, s_214_926, s_214_927, r_214_927, s_214_930, s_214_932, s_214_933, r_214_933, s_214_936, s_214_938, s_214_941, s_214_942, s_214_943, s_214_945, s_214_948, s_214_949, s_214_950, s_214_951, s_214_953, s_214_954, s_214_955, s_214_958, s_214_959, s_214_960, jI_mul, jI_add, jI_tnc, jI_ixT, true_and, and_true, bZ_0, bZ_1, bZ_b, jI_nz, jI_div, jI_rem, jI_mod, Nat.add_zero, bI_if, not_false_iff, if_true, if_false, eq_self, m_thrown, a2, u2_lo, lgS, if_true, if_false]
    exact HN _ _ _ _ _ _ _ _ _ ⟨CI_pr hG hC a3, a1, hA4⟩ ((a3 SCR (Or.inr SCR_hi)).trans hsc) (by omega) (by omega)

theorem L_gardenOf (hL : LInv N σ G) (hN : N ≤ 100000000) (hi : i + 4 < Ln) (hLn : Ln ≤ 100000) (hsc : σ SCR = scr) (hk : k ≤ 603000) (hs : s ≤ 7207000) (HN : NXT N Ln i k s scr K) :
    Ev 214 (1019, [.ref SCR, .ref 0, .ref 368, .ref 377, .ref 378, .int (jI i), v6, v7, v8], [], k, s, MM Ln σ lo db) K := by
  obtain ⟨hC, hR, hA⟩ := hL
  have hG := hA.gd
  obtain ⟨⟨g, oh, ng, nd, nc, h⟩, H, sv, y0, d0, c, len, er⟩ := G
  have hS : Snd (g, oh, ng, nd, nc, h) := hA.1.1
  have hh : h ≤ N := hA.1.2
  have hA4 := hA.mono (show N ≤ N + 4000 by omega)
  obtain ⟨hB, hO, hNG, hAC⟩ := Snd_of hS
  have hBa := Bas_of hB hO
  have hB0 := hB
  obtain ⟨b1, b2, b3, b4, b5, b6, b7, b8, b9⟩ := hB
  have n1 : (jI 1 = jI 0) = False := jI_nz (by decide) (by decide)
  have n2 : (jI 2 = jI 0) = False := jI_nz (by decide) (by decide)
  have n3 : (jI 3 = jI 0) = False := jI_nz (by decide) (by decide)
  have hks : k + 1 ≤ 603072 ∧ s + 6 ≤ 7207017 := by omega
  have hks2 : k + 1 + 0 ≤ 603072 ∧ s + 6 + 0 ≤ 7207017 := by omega
  simp (disch := first | assumption | omega) only [s_214_1019, s_214_1020, s_214_1021, s_214_1023, s_214_1024, s_214_1025, s_214_1026, s_214_1027, s_214_1029, s_214_1030, s_214_1031, s_214_1032, s_214_1033, r_214_1033, s_214_1036, s_214_1038, s_214_1039, s_214_1040, s_214_1042, s_214_1043, s_214_1044, s_214_1045, s_214_1046, s_214_1048, s_214_1049, s_214_1050, s_214_1051, r_214_1051, s_214_1054, s_214_1056, s_214_1057, r_214_1057, s_214_1060, s_214_1062, s_214_1065, s_214_1066, s_214_1067, s_214_1069, s_214_1072, s_214_1073, s_214_1074, s_214_1075, s_214_1077, s_214_1078, s_214_1079, s_214_1082, s_214_1083, s_214_1084, jI_mul, jI_add, jI_tnc, jI_ixT, true_and, and_true, bZ_0, bZ_1, bZ_b, jI_nz, jI_div, jI_rem, jI_mod, Nat.add_zero, bI_if, not_false_iff, if_true, if_false, eq_self, hsc]
  refine w_gardenOf hG hC (fun q => ?_) (fun q q1 => ?_) (fun k n hk ek hn en => ?_)
  · skip
    simp (disch := first | assumption | omega) only [s_214_1019, s_214_1020, s_214_1021, s_214_1023, s_214_1024, s_214_1025, s_214_1026, s_214_1027, s_214_1029, s_214_1030, s_214_1031, s_214_1032, s_214_1033, r_214_1033, s_214_1036, s_214_1038, s_214_1039, s_214_1040, s_214_1042, s_214_1043, s_214_1044, s_214_1045, s_214_1046, s_214_1048, s_214_1049, s_214_1050, s_214_1051, r_214_1051, s_214_1054, s_214_1056, s_214_1057, r_214_1057, s_214_1060, s_214_1062, s_214_1065, s_214_1066, s_214_1067, s_214_1069, s_214_1072, s_214_1073, s_214_1074, s_214_1075, s_214_1077, s_214_1078, s_214_1079, s_214_1082, s_214_1083, s_214_1084, jI_mul, jI_add, jI_tnc, jI_ixT, true_and, and_true, bZ_0, bZ_1, bZ_b, jI_nz, jI_div, jI_rem, jI_mod, Nat.add_zero, bI_if, not_false_iff, if_true, if_false, eq_self, hsc]
    have e9 : σ 369 = g := (hR).1
    have e6 : σ 368 6 = jI H.length := (hR).2.1.2.1
    have el : H.length ≤ 8 := (hR).2.1.1
    have e7 : σ 368 7 = jI 0 := (hR).2.2.2.2.1
    rw [MM_MG e9]
    refine m_gardenOf b2 b6 (fun _ => ?_) (fun q' => absurd q' q) (fun k n hk ek => absurd (hs_mk ek hk (by omega)) q)
    obtain ⟨a1, a2, a3⟩ := RI_code (v := jI 1) hR
    dsimp only at a1 a2 a3
    simp (disch := first | assumption | omega) only [s_214_1019, s_214_1020, s_214_1021, s_214_1023, s_214_1024, s_214_1025, s_214_1026, s_214_1027, s_214_1029, s_214_1030, s_214_1031, s_214_1032, s_214_1033, r_214_1033, s_214_1036, s_214_1038, s_214_1039, s_214_1040, s_214_1042, s_214_1043, s_214_1044, s_214_1045, s_214_1046, s_214_1048, s_214_1049, s_214_1050, s_214_1051, r_214_1051, s_214_1054, s_214_1056, s_214_1057, r_214_1057, s_214_1060, s_214_1062, s_214_1065, s_214_1066, s_214_1067, s_214_1069, s_214_1072, s_214_1073, s_214_1074, s_214_1075, s_214_1077, s_214_1078, s_214_1079, s_214_1082, s_214_1083, s_214_1084, jI_mul, jI_add, jI_tnc, jI_ixT, true_and, and_true, bZ_0, bZ_1, bZ_b, jI_nz, jI_div, jI_rem, jI_mod, Nat.add_zero, bI_if, not_false_iff, if_true, if_false, eq_self, m_thrown, a2, n1, if_true, if_false]
    exact HN _ _ _ _ _ _ _ _ _ ⟨CI_pr hG hC a3, a1, hA4⟩ ((a3 SCR (Or.inr SCR_hi)).trans hsc) (by omega) (by omega)
  · skip
    simp (disch := first | assumption | omega) only [s_214_1019, s_214_1020, s_214_1021, s_214_1023, s_214_1024, s_214_1025, s_214_1026, s_214_1027, s_214_1029, s_214_1030, s_214_1031, s_214_1032, s_214_1033, r_214_1033, s_214_1036, s_214_1038, s_214_1039, s_214_1040, s_214_1042, s_214_1043, s_214_1044, s_214_1045, s_214_1046, s_214_1048, s_214_1049, s_214_1050, s_214_1051, r_214_1051, s_214_1054, s_214_1056, s_214_1057, r_214_1057, s_214_1060, s_214_1062, s_214_1065, s_214_1066, s_214_1067, s_214_1069, s_214_1072, s_214_1073, s_214_1074, s_214_1075, s_214_1077, s_214_1078, s_214_1079, s_214_1082, s_214_1083, s_214_1084, jI_mul, jI_add, jI_tnc, jI_ixT, true_and, and_true, bZ_0, bZ_1, bZ_b, jI_nz, jI_div, jI_rem, jI_mod, Nat.add_zero, bI_if, not_false_iff, if_true, if_false, eq_self, hsc]
    have e9 : σ 369 = g := (hR).1
    have e6 : σ 368 6 = jI H.length := (hR).2.1.2.1
    have el : H.length ≤ 8 := (hR).2.1.1
    have e7 : σ 368 7 = jI 0 := (hR).2.2.2.2.1
    rw [MM_MG e9]
    refine m_gardenOf b2 b6 (fun q' => absurd q q') (fun _ _ => ?_) (fun k n _ _ hn en => absurd (rng_mk en (Nat.zero_le _) (by omega) (by decide)) q1)
    obtain ⟨a1, a2, a3⟩ := RI_code (v := jI 2) hR
    dsimp only at a1 a2 a3
    simp (disch := first | assumption | omega) only [s_214_1019, s_214_1020, s_214_1021, s_214_1023, s_214_1024, s_214_1025, s_214_1026, s_214_1027, s_214_1029, s_214_1030, s_214_1031, s_214_1032, s_214_1033, r_214_1033, s_214_1036, s_214_1038, s_214_1039, s_214_1040, s_214_1042, s_214_1043, s_214_1044, s_214_1045, s_214_1046, s_214_1048, s_214_1049, s_214_1050, s_214_1051, r_214_1051, s_214_1054, s_214_1056, s_214_1057, r_214_1057, s_214_1060, s_214_1062, s_214_1065, s_214_1066, s_214_1067, s_214_1069, s_214_1072, s_214_1073, s_214_1074, s_214_1075, s_214_1077, s_214_1078, s_214_1079, s_214_1082, s_214_1083, s_214_1084, jI_mul, jI_add, jI_tnc, jI_ixT, true_and, and_true, bZ_0, bZ_1, bZ_b, jI_nz, jI_div, jI_rem, jI_mod, Nat.add_zero, bI_if, not_false_iff, if_true, if_false, eq_self, m_thrown, a2, n2, if_true, if_false]
    exact HN _ _ _ _ _ _ _ _ _ ⟨CI_pr hG hC a3, a1, hA4⟩ ((a3 SCR (Or.inr SCR_hi)).trans hsc) (by omega) (by omega)
  · skip
    simp (disch := first | assumption | omega) only [s_214_1019, s_214_1020, s_214_1021, s_214_1023, s_214_1024, s_214_1025, s_214_1026, s_214_1027, s_214_1029, s_214_1030, s_214_1031, s_214_1032, s_214_1033, r_214_1033, s_214_1036, s_214_1038, s_214_1039, s_214_1040, s_214_1042, s_214_1043, s_214_1044, s_214_1045, s_214_1046, s_214_1048, s_214_1049, s_214_1050, s_214_1051, r_214_1051, s_214_1054, s_214_1056, s_214_1057, r_214_1057, s_214_1060, s_214_1062, s_214_1065, s_214_1066, s_214_1067, s_214_1069, s_214_1072, s_214_1073, s_214_1074, s_214_1075, s_214_1077, s_214_1078, s_214_1079, s_214_1082, s_214_1083, s_214_1084, jI_mul, jI_add, jI_tnc, jI_ixT, true_and, and_true, bZ_0, bZ_1, bZ_b, jI_nz, jI_div, jI_rem, jI_mod, Nat.add_zero, bI_if, not_false_iff, if_true, if_false, eq_self, hsc]
    have e9 : σ 369 = g := (hR).1
    have e6 : σ 368 6 = jI H.length := (hR).2.1.2.1
    have el : H.length ≤ 8 := (hR).2.1.1
    have e7 : σ 368 7 = jI 0 := (hR).2.2.2.2.1
    rw [MM_MG e9]
    refine m_gardenOf b2 b6 (fun q' => absurd (hs_mk ek hk (by omega)) q') (fun _ q' => absurd (rng_mk en (Nat.zero_le _) (by omega) (by decide)) q') (fun k' n' hk' ek' hn' en' => ?_)
    obtain rfl : k = k' := jI_c ek ek' (by omega) (by omega)
    obtain rfl : n = n' := jI_c en en' (by omega) (by omega)
    obtain ⟨a1, a2, a3⟩ := RI_code (v := jI 0) hR
    dsimp only at a1 a2 a3
    simp (disch := first | assumption | omega) only [s_214_1019, s_214_1020, s_214_1021, s_214_1023, s_214_1024, s_214_1025, s_214_1026, s_214_1027, s_214_1029, s_214_1030, s_214_1031, s_214_1032, s_214_1033, r_214_1033, s_214_1036, s_214_1038, s_214_1039, s_214_1040, s_214_1042, s_214_1043, s_214_1044, s_214_1045, s_214_1046, s_214_1048, s_214_1049, s_214_1050, s_214_1051, r_214_1051, s_214_1054, s_214_1056, s_214_1057, r_214_1057, s_214_1060, s_214_1062, s_214_1065, s_214_1066, s_214_1067, s_214_1069, s_214_1072, s_214_1073, s_214_1074, s_214_1075, s_214_1077, s_214_1078, s_214_1079, s_214_1082, s_214_1083, s_214_1084, jI_mul, jI_add, jI_tnc, jI_ixT, true_and, and_true, bZ_0, bZ_1, bZ_b, jI_nz, jI_div, jI_rem, jI_mod, Nat.add_zero, bI_if, not_false_iff, if_true, if_false, eq_self, m_thrown, a2, u2_lo, lgS, if_true, if_false]
    exact HN _ _ _ _ _ _ _ _ _ ⟨CI_pr hG hC a3, a1, hA4⟩ ((a3 SCR (Or.inr SCR_hi)).trans hsc) (by omega) (by omega)

theorem L_nextOpen (hL : LInv N σ G) (hN : N ≤ 100000000) (hi : i + 4 < Ln) (hLn : Ln ≤ 100000) (hsc : σ SCR = scr) (hk : k ≤ 603000) (hs : s ≤ 7207000) (HN : NXT N Ln i k s scr K) :
    Ev 214 (963, [.ref SCR, .ref 0, .ref 368, .ref 377, .ref 378, .int (jI i), v6, v7, v8], [], k, s, MM Ln σ lo db) K := by
  obtain ⟨hC, hR, hA⟩ := hL
  have hG := hA.gd
  obtain ⟨⟨g, oh, ng, nd, nc, h⟩, H, sv, y0, d0, c, len, er⟩ := G
  have hS : Snd (g, oh, ng, nd, nc, h) := hA.1.1
  have hh : h ≤ N := hA.1.2
  have hA4 := hA.mono (show N ≤ N + 4000 by omega)
  obtain ⟨hB, hO, hNG, hAC⟩ := Snd_of hS
  have hBa := Bas_of hB hO
  have hB0 := hB
  obtain ⟨b1, b2, b3, b4, b5, b6, b7, b8, b9⟩ := hB
  have n1 : (jI 1 = jI 0) = False := jI_nz (by decide) (by decide)
  have n2 : (jI 2 = jI 0) = False := jI_nz (by decide) (by decide)
  have n3 : (jI 3 = jI 0) = False := jI_nz (by decide) (by decide)
  have hks : k + 1 ≤ 603072 ∧ s + 6 ≤ 7207017 := by omega
  have hks2 : k + 1 + 0 ≤ 603072 ∧ s + 6 + 0 ≤ 7207017 := by omega
  simp (disch := first | assumption | omega) only [s_214_963, s_214_964, s_214_965, s_214_967, s_214_968, s_214_969, s_214_970, s_214_971, r_214_971, s_214_974, s_214_976, s_214_977, s_214_978, s_214_980, s_214_981, s_214_982, s_214_983, r_214_983, s_214_986, s_214_988, s_214_989, r_214_989, s_214_992, s_214_994, s_214_997, s_214_998, s_214_999, s_214_1001, s_214_1004, s_214_1005, s_214_1006, s_214_1007, s_214_1009, s_214_1010, s_214_1011, s_214_1014, s_214_1015, s_214_1016, jI_mul, jI_add, jI_tnc, jI_ixT, true_and, and_true, bZ_0, bZ_1, bZ_b, jI_nz, jI_div, jI_rem, jI_mod, Nat.add_zero, bI_if, not_false_iff, if_true, if_false, eq_self, hsc]
  refine w_nextOpen (by omega) hG hC (fun q => ?_) (fun k hk ek hall => ?_) (fun k n hk ek hn ho hno => ?_)
  · skip
    simp (disch := first | assumption | omega) only [s_214_963, s_214_964, s_214_965, s_214_967, s_214_968, s_214_969, s_214_970, s_214_971, r_214_971, s_214_974, s_214_976, s_214_977, s_214_978, s_214_980, s_214_981, s_214_982, s_214_983, r_214_983, s_214_986, s_214_988, s_214_989, r_214_989, s_214_992, s_214_994, s_214_997, s_214_998, s_214_999, s_214_1001, s_214_1004, s_214_1005, s_214_1006, s_214_1007, s_214_1009, s_214_1010, s_214_1011, s_214_1014, s_214_1015, s_214_1016, jI_mul, jI_add, jI_tnc, jI_ixT, true_and, and_true, bZ_0, bZ_1, bZ_b, jI_nz, jI_div, jI_rem, jI_mod, Nat.add_zero, bI_if, not_false_iff, if_true, if_false, eq_self, hsc]
    have e9 : σ 369 = g := (hR).1
    have e6 : σ 368 6 = jI H.length := (hR).2.1.2.1
    have el : H.length ≤ 8 := (hR).2.1.1
    have e7 : σ 368 7 = jI 0 := (hR).2.2.2.2.1
    rw [MM_MG e9]
    refine m_nextOpen hBa (by omega) (fun _ => ?_) (fun k hk ek => absurd (hs_mk ek hk (by omega)) q) (fun k n hk ek => absurd (hs_mk ek hk (by omega)) q)
    obtain ⟨a1, a2, a3⟩ := RI_code (v := jI 1) hR
    dsimp only at a1 a2 a3
    simp (disch := first | assumption | omega) only [s_214_963, s_214_964, s_214_965, s_214_967, s_214_968, s_214_969, s_214_970, s_214_971, r_214_971, s_214_974, s_214_976, s_214_977, s_214_978, s_214_980, s_214_981, s_214_982, s_214_983, r_214_983, s_214_986, s_214_988, s_214_989, r_214_989, s_214_992, s_214_994, s_214_997, s_214_998, s_214_999, s_214_1001, s_214_1004, s_214_1005, s_214_1006, s_214_1007, s_214_1009, s_214_1010, s_214_1011, s_214_1014, s_214_1015, s_214_1016, jI_mul, jI_add, jI_tnc, jI_ixT, true_and, and_true, bZ_0, bZ_1, bZ_b, jI_nz, jI_div, jI_rem, jI_mod, Nat.add_zero, bI_if, not_false_iff, if_true, if_false, eq_self, m_thrown, a2, n1, if_true, if_false]
    exact HN _ _ _ _ _ _ _ _ _ ⟨CI_pr hG hC a3, a1, hA4⟩ ((a3 SCR (Or.inr SCR_hi)).trans hsc) (by omega) (by omega)
  · skip
    simp (disch := first | assumption | omega) only [s_214_963, s_214_964, s_214_965, s_214_967, s_214_968, s_214_969, s_214_970, s_214_971, r_214_971, s_214_974, s_214_976, s_214_977, s_214_978, s_214_980, s_214_981, s_214_982, s_214_983, r_214_983, s_214_986, s_214_988, s_214_989, r_214_989, s_214_992, s_214_994, s_214_997, s_214_998, s_214_999, s_214_1001, s_214_1004, s_214_1005, s_214_1006, s_214_1007, s_214_1009, s_214_1010, s_214_1011, s_214_1014, s_214_1015, s_214_1016, jI_mul, jI_add, jI_tnc, jI_ixT, true_and, and_true, bZ_0, bZ_1, bZ_b, jI_nz, jI_div, jI_rem, jI_mod, Nat.add_zero, bI_if, not_false_iff, if_true, if_false, eq_self, hsc]
    have e9 : σ 369 = g := (hR).1
    have e6 : σ 368 6 = jI H.length := (hR).2.1.2.1
    have el : H.length ≤ 8 := (hR).2.1.1
    have e7 : σ 368 7 = jI 0 := (hR).2.2.2.2.1
    rw [MM_MG e9]
    refine m_nextOpen hBa (by omega) (fun q' => absurd (hs_mk ek hk (by omega)) q') (fun k' hk' ek' hall' => ?_) (fun k' n' hk' ek' hn' ho' _ => by obtain rfl : k = k' := jI_c ek ek' (by omega) (by omega); exact absurd ho' (hall n' hn'))
    obtain ⟨a1, a2, a3⟩ := RI_code (v := jI 2) hR
    dsimp only at a1 a2 a3
    simp (disch := first | assumption | omega) only [s_214_963, s_214_964, s_214_965, s_214_967, s_214_968, s_214_969, s_214_970, s_214_971, r_214_971, s_214_974, s_214_976, s_214_977, s_214_978, s_214_980, s_214_981, s_214_982, s_214_983, r_214_983, s_214_986, s_214_988, s_214_989, r_214_989, s_214_992, s_214_994, s_214_997, s_214_998, s_214_999, s_214_1001, s_214_1004, s_214_1005, s_214_1006, s_214_1007, s_214_1009, s_214_1010, s_214_1011, s_214_1014, s_214_1015, s_214_1016, jI_mul, jI_add, jI_tnc, jI_ixT, true_and, and_true, bZ_0, bZ_1, bZ_b, jI_nz, jI_div, jI_rem, jI_mod, Nat.add_zero, bI_if, not_false_iff, if_true, if_false, eq_self, m_thrown, a2, n2, if_true, if_false]
    exact HN _ _ _ _ _ _ _ _ _ ⟨CI_pr hG hC a3, a1, hA4⟩ ((a3 SCR (Or.inr SCR_hi)).trans hsc) (by omega) (by omega)
  · skip
    simp (disch := first | assumption | omega) only [s_214_963, s_214_964, s_214_965, s_214_967, s_214_968, s_214_969, s_214_970, s_214_971, r_214_971, s_214_974, s_214_976, s_214_977, s_214_978, s_214_980, s_214_981, s_214_982, s_214_983, r_214_983, s_214_986, s_214_988, s_214_989, r_214_989, s_214_992, s_214_994, s_214_997, s_214_998, s_214_999, s_214_1001, s_214_1004, s_214_1005, s_214_1006, s_214_1007, s_214_1009, s_214_1010, s_214_1011, s_214_1014, s_214_1015, s_214_1016, jI_mul, jI_add, jI_tnc, jI_ixT, true_and, and_true, bZ_0, bZ_1, bZ_b, jI_nz, jI_div, jI_rem, jI_mod, Nat.add_zero, bI_if, not_false_iff, if_true, if_false, eq_self, hsc]
    have e9 : σ 369 = g := (hR).1
    have e6 : σ 368 6 = jI H.length := (hR).2.1.2.1
    have el : H.length ≤ 8 := (hR).2.1.1
    have e7 : σ 368 7 = jI 0 := (hR).2.2.2.2.1
    rw [MM_MG e9]
    refine m_nextOpen hBa (by omega) (fun q' => absurd (hs_mk ek hk (by omega)) q') (fun k' hk' ek' hall' => by obtain rfl : k = k' := jI_c ek ek' (by omega) (by omega); exact absurd ho (hall' n hn)) (fun k' n' hk' ek' hn' ho' hno' => ?_)
    obtain rfl : k = k' := jI_c ek ek' (by omega) (by omega)
    obtain rfl : n = n' := by
      rcases Nat.lt_trichotomy n n' with l | l | l
      · exact absurd ho (hno' n l)
      · exact l
      · exact absurd ho' (hno n' l)
    obtain ⟨a1, a2, a3⟩ := RI_code (v := jI 0) hR
    dsimp only at a1 a2 a3
    simp (disch := first | assumption | omega) only [s_214_963, s_214_964, s_214_965, s_214_967, s_214_968, s_214_969, s_214_970, s_214_971, r_214_971, s_214_974, s_214_976, s_214_977, s_214_978, s_214_980, s_214_981, s_214_982, s_214_983, r_214_983, s_214_986, s_214_988, s_214_989, r_214_989, s_214_992, s_214_994, s_214_997, s_214_998, s_214_999, s_214_1001, s_214_1004, s_214_1005, s_214_1006, s_214_1007, s_214_1009, s_214_1010, s_214_1011, s_214_1014, s_214_1015, s_214_1016, jI_mul, jI_add, jI_tnc, jI_ixT, true_and, and_true, bZ_0, bZ_1, bZ_b, jI_nz, jI_div, jI_rem, jI_mod, Nat.add_zero, bI_if, not_false_iff, if_true, if_false, eq_self, m_thrown, a2, u2_lo, lgS, if_true, if_false]
    exact HN _ _ _ _ _ _ _ _ _ ⟨CI_pr hG hC a3, a1, hA4⟩ ((a3 SCR (Or.inr SCR_hi)).trans hsc) (by omega) (by omega)

theorem L_thirsty (hL : LInv N σ G) (hN : N ≤ 100000000) (hi : i + 4 < Ln) (hLn : Ln ≤ 100000) (hsc : σ SCR = scr) (hk : k ≤ 603000) (hs : s ≤ 7207000) (HN : NXT N Ln i k s scr K) :
    Ev 214 (1087, [.ref SCR, .ref 0, .ref 368, .ref 377, .ref 378, .int (jI i), v6, v7, v8], [], k, s, MM Ln σ lo db) K := by
  obtain ⟨hC, hR, hA⟩ := hL
  have hG := hA.gd
  obtain ⟨⟨g, oh, ng, nd, nc, h⟩, H, sv, y0, d0, c, len, er⟩ := G
  have hS : Snd (g, oh, ng, nd, nc, h) := hA.1.1
  have hh : h ≤ N := hA.1.2
  have hA4 := hA.mono (show N ≤ N + 4000 by omega)
  obtain ⟨hB, hO, hNG, hAC⟩ := Snd_of hS
  have hBa := Bas_of hB hO
  have hB0 := hB
  obtain ⟨b1, b2, b3, b4, b5, b6, b7, b8, b9⟩ := hB
  have n1 : (jI 1 = jI 0) = False := jI_nz (by decide) (by decide)
  have n2 : (jI 2 = jI 0) = False := jI_nz (by decide) (by decide)
  have n3 : (jI 3 = jI 0) = False := jI_nz (by decide) (by decide)
  have hks : k + 1 ≤ 603072 ∧ s + 6 ≤ 7207017 := by omega
  have hks2 : k + 1 + 0 ≤ 603072 ∧ s + 6 + 0 ≤ 7207017 := by omega
  simp (disch := first | assumption | omega) only [s_214_1087, s_214_1088, s_214_1089, s_214_1091, s_214_1092, s_214_1093, s_214_1094, s_214_1095, s_214_1097, s_214_1098, s_214_1099, s_214_1100, s_214_1101, r_214_1101, s_214_1104, s_214_1106, s_214_1107, s_214_1108, s_214_1110, s_214_1111, s_214_1112, s_214_1113, s_214_1114, s_214_1116, s_214_1117, s_214_1118, s_214_1119, r_214_1119, s_214_1122, s_214_1124, s_214_1125, r_214_1125, s_214_1128, s_214_1130, s_214_1133, s_214_1134, s_214_1135, s_214_1137, s_214_1140, s_214_1141, s_214_1142, s_214_1143, s_214_1145, s_214_1146, s_214_1147, s_214_1150, s_214_1151, s_214_1152, jI_mul, jI_add, jI_tnc, jI_ixT, true_and, and_true, bZ_0, bZ_1, bZ_b, jI_nz, jI_div, jI_rem, jI_mod, Nat.add_zero, bI_if, not_false_iff, if_true, if_false, eq_self, hsc]
  refine w_thirsty hG hC (fun q => ?_) (fun k hk ek hn σ1 hC1 p1 => ?_) (fun k n hk ek hn en σ1 hC1 p1 => ?_)
  · skip
    simp (disch := first | assumption | omega) only [s_214_1087, s_214_1088, s_214_1089, s_214_1091, s_214_1092, s_214_1093, s_214_1094, s_214_1095, s_214_1097, s_214_1098, s_214_1099, s_214_1100, s_214_1101, r_214_1101, s_214_1104, s_214_1106, s_214_1107, s_214_1108, s_214_1110, s_214_1111, s_214_1112, s_214_1113, s_214_1114, s_214_1116, s_214_1117, s_214_1118, s_214_1119, r_214_1119, s_214_1122, s_214_1124, s_214_1125, r_214_1125, s_214_1128, s_214_1130, s_214_1133, s_214_1134, s_214_1135, s_214_1137, s_214_1140, s_214_1141, s_214_1142, s_214_1143, s_214_1145, s_214_1146, s_214_1147, s_214_1150, s_214_1151, s_214_1152, jI_mul, jI_add, jI_tnc, jI_ixT, true_and, and_true, bZ_0, bZ_1, bZ_b, jI_nz, jI_div, jI_rem, jI_mod, Nat.add_zero, bI_if, not_false_iff, if_true, if_false, eq_self, hsc]
    have e9 : σ 369 = g := (hR).1
    have e6 : σ 368 6 = jI H.length := (hR).2.1.2.1
    have el : H.length ≤ 8 := (hR).2.1.1
    have e7 : σ 368 7 = jI 0 := (hR).2.2.2.2.1
    rw [MM_MG e9]
    refine m_thirsty b1 b5 b2 b6 (fun _ => ?_) (fun k hk ek => absurd (hs_mk ek hk (by omega)) q) (fun k => ordS_cnt nd) (fun k n σ2 hk ek => absurd (hs_mk ek hk (by omega)) q)
    obtain ⟨a1, a2, a3⟩ := RI_code (v := jI 1) hR
    dsimp only at a1 a2 a3
    simp (disch := first | assumption | omega) only [s_214_1087, s_214_1088, s_214_1089, s_214_1091, s_214_1092, s_214_1093, s_214_1094, s_214_1095, s_214_1097, s_214_1098, s_214_1099, s_214_1100, s_214_1101, r_214_1101, s_214_1104, s_214_1106, s_214_1107, s_214_1108, s_214_1110, s_214_1111, s_214_1112, s_214_1113, s_214_1114, s_214_1116, s_214_1117, s_214_1118, s_214_1119, r_214_1119, s_214_1122, s_214_1124, s_214_1125, r_214_1125, s_214_1128, s_214_1130, s_214_1133, s_214_1134, s_214_1135, s_214_1137, s_214_1140, s_214_1141, s_214_1142, s_214_1143, s_214_1145, s_214_1146, s_214_1147, s_214_1150, s_214_1151, s_214_1152, jI_mul, jI_add, jI_tnc, jI_ixT, true_and, and_true, bZ_0, bZ_1, bZ_b, jI_nz, jI_div, jI_rem, jI_mod, Nat.add_zero, bI_if, not_false_iff, if_true, if_false, eq_self, m_thrown, a2, n1, if_true, if_false]
    exact HN _ _ _ _ _ _ _ _ _ ⟨CI_pr hG hC a3, a1, hA4⟩ ((a3 SCR (Or.inr SCR_hi)).trans hsc) (by omega) (by omega)
  · skip
    have hR1 := RI_pc hR p1
    have hsc1 : σ1 SCR = scr := (p1 SCR (by have := SCR_hi; omega)).trans hsc
    simp (disch := first | assumption | omega) only [s_214_1087, s_214_1088, s_214_1089, s_214_1091, s_214_1092, s_214_1093, s_214_1094, s_214_1095, s_214_1097, s_214_1098, s_214_1099, s_214_1100, s_214_1101, r_214_1101, s_214_1104, s_214_1106, s_214_1107, s_214_1108, s_214_1110, s_214_1111, s_214_1112, s_214_1113, s_214_1114, s_214_1116, s_214_1117, s_214_1118, s_214_1119, r_214_1119, s_214_1122, s_214_1124, s_214_1125, r_214_1125, s_214_1128, s_214_1130, s_214_1133, s_214_1134, s_214_1135, s_214_1137, s_214_1140, s_214_1141, s_214_1142, s_214_1143, s_214_1145, s_214_1146, s_214_1147, s_214_1150, s_214_1151, s_214_1152, jI_mul, jI_add, jI_tnc, jI_ixT, true_and, and_true, bZ_0, bZ_1, bZ_b, jI_nz, jI_div, jI_rem, jI_mod, Nat.add_zero, bI_if, not_false_iff, if_true, if_false, eq_self, hsc1]
    have e9 : σ1 369 = g := (hR1).1
    have e6 : σ1 368 6 = jI H.length := (hR1).2.1.2.1
    have el : H.length ≤ 8 := (hR1).2.1.1
    have e7 : σ1 368 7 = jI 0 := (hR1).2.2.2.2.1
    have hw : (ordS g (jI k) nd).2 ≤ 12 := by rw [ordS_cnt]; exact Nat.le_trans (cntS_le nd) b2
    rw [MM_MG e9]
    refine m_thirsty b1 b5 b2 b6 (fun q' => absurd (hs_mk ek hk (by omega)) q') (fun k' hk' ek' hn' => ?_) (fun k => ordS_cnt nd) (fun k' n' σ2 hk' ek' hn' en' f => by obtain rfl : k = k' := jI_c ek ek' (by omega) (by omega); exact absurd (hs_mk en' hn' hw) hn)
    obtain ⟨a1, a2, a3⟩ := RI_code (v := jI 2) hR1
    dsimp only at a1 a2 a3
    simp (disch := first | assumption | omega) only [s_214_1087, s_214_1088, s_214_1089, s_214_1091, s_214_1092, s_214_1093, s_214_1094, s_214_1095, s_214_1097, s_214_1098, s_214_1099, s_214_1100, s_214_1101, r_214_1101, s_214_1104, s_214_1106, s_214_1107, s_214_1108, s_214_1110, s_214_1111, s_214_1112, s_214_1113, s_214_1114, s_214_1116, s_214_1117, s_214_1118, s_214_1119, r_214_1119, s_214_1122, s_214_1124, s_214_1125, r_214_1125, s_214_1128, s_214_1130, s_214_1133, s_214_1134, s_214_1135, s_214_1137, s_214_1140, s_214_1141, s_214_1142, s_214_1143, s_214_1145, s_214_1146, s_214_1147, s_214_1150, s_214_1151, s_214_1152, jI_mul, jI_add, jI_tnc, jI_ixT, true_and, and_true, bZ_0, bZ_1, bZ_b, jI_nz, jI_div, jI_rem, jI_mod, Nat.add_zero, bI_if, not_false_iff, if_true, if_false, eq_self, m_thrown, a2, n2, if_true, if_false]
    exact HN _ _ _ _ _ _ _ _ _ ⟨CI_pr hG hC1 a3, a1, hA4⟩ ((a3 SCR (Or.inr SCR_hi)).trans hsc1) (by omega) (by omega)
  · skip
    have hR1 := RI_pc hR p1
    have hsc1 : σ1 SCR = scr := (p1 SCR (by have := SCR_hi; omega)).trans hsc
    simp (disch := first | assumption | omega) only [s_214_1087, s_214_1088, s_214_1089, s_214_1091, s_214_1092, s_214_1093, s_214_1094, s_214_1095, s_214_1097, s_214_1098, s_214_1099, s_214_1100, s_214_1101, r_214_1101, s_214_1104, s_214_1106, s_214_1107, s_214_1108, s_214_1110, s_214_1111, s_214_1112, s_214_1113, s_214_1114, s_214_1116, s_214_1117, s_214_1118, s_214_1119, r_214_1119, s_214_1122, s_214_1124, s_214_1125, r_214_1125, s_214_1128, s_214_1130, s_214_1133, s_214_1134, s_214_1135, s_214_1137, s_214_1140, s_214_1141, s_214_1142, s_214_1143, s_214_1145, s_214_1146, s_214_1147, s_214_1150, s_214_1151, s_214_1152, jI_mul, jI_add, jI_tnc, jI_ixT, true_and, and_true, bZ_0, bZ_1, bZ_b, jI_nz, jI_div, jI_rem, jI_mod, Nat.add_zero, bI_if, not_false_iff, if_true, if_false, eq_self, hsc1]
    have e9 : σ1 369 = g := (hR1).1
    have e6 : σ1 368 6 = jI H.length := (hR1).2.1.2.1
    have el : H.length ≤ 8 := (hR1).2.1.1
    have e7 : σ1 368 7 = jI 0 := (hR1).2.2.2.2.1
    have hw : (ordS g (jI k) nd).2 ≤ 12 := by rw [ordS_cnt]; exact Nat.le_trans (cntS_le nd) b2
    rw [MM_MG e9]
    refine m_thirsty b1 b5 b2 b6 (fun q' => absurd (hs_mk ek hk (by omega)) q') (fun k' hk' ek' hn' => by obtain rfl : k = k' := jI_c ek ek' (by omega) (by omega); rw [← ordS_cnt] at hn'; exact absurd (hs_mk en hn hw) hn') (fun k => ordS_cnt nd) (fun k' n' σ2 hk' ek' hn' en' f => ?_)
    obtain rfl : k = k' := jI_c ek ek' (by omega) (by omega)
    obtain rfl : n = n' := jI_c en en' (by omega) (by omega)
    obtain ⟨f1, f2⟩ := FR_u2 f
    obtain ⟨a1, a2, a3⟩ := RI_tr0 (τ := σ2) hR1 f1 f2
    dsimp only at a1 a2 a3
    simp (disch := first | assumption | omega) only [s_214_1087, s_214_1088, s_214_1089, s_214_1091, s_214_1092, s_214_1093, s_214_1094, s_214_1095, s_214_1097, s_214_1098, s_214_1099, s_214_1100, s_214_1101, r_214_1101, s_214_1104, s_214_1106, s_214_1107, s_214_1108, s_214_1110, s_214_1111, s_214_1112, s_214_1113, s_214_1114, s_214_1116, s_214_1117, s_214_1118, s_214_1119, r_214_1119, s_214_1122, s_214_1124, s_214_1125, r_214_1125, s_214_1128, s_214_1130, s_214_1133, s_214_1134, s_214_1135, s_214_1137, s_214_1140, s_214_1141, s_214_1142, s_214_1143, s_214_1145, s_214_1146, s_214_1147, s_214_1150, s_214_1151, s_214_1152, jI_mul, jI_add, jI_tnc, jI_ixT, true_and, and_true, bZ_0, bZ_1, bZ_b, jI_nz, jI_div, jI_rem, jI_mod, Nat.add_zero, bI_if, not_false_iff, if_true, if_false, eq_self, m_thrown, a2, u2_lo, lgS, if_true, if_false]
    exact HN _ _ _ _ _ _ _ _ _ ⟨CI_pr hG hC1 a3, a1, hA4⟩ ((a3 SCR (Or.inr SCR_hi)).trans hsc1) (by omega) (by omega)

theorem L_placeAgain (hL : LInv N σ G) (hN : N ≤ 100000000) (hi : i + 4 < Ln) (hLn : Ln ≤ 100000) (hsc : σ SCR = scr) (hk : k ≤ 603000) (hs : s ≤ 7207000) (HN : NXT N Ln i k s scr K) :
    Ev 214 (1155, [.ref SCR, .ref 0, .ref 368, .ref 377, .ref 378, .int (jI i), v6, v7, v8], [], k, s, MM Ln σ lo db) K := by
  obtain ⟨hC, hR, hA⟩ := hL
  have hG := hA.gd
  obtain ⟨⟨g, oh, ng, nd, nc, h⟩, H, sv, y0, d0, c, len, er⟩ := G
  have hS : Snd (g, oh, ng, nd, nc, h) := hA.1.1
  have hh : h ≤ N := hA.1.2
  have hA4 := hA.mono (show N ≤ N + 4000 by omega)
  obtain ⟨hB, hO, hNG, hAC⟩ := Snd_of hS
  have hBa := Bas_of hB hO
  have hB0 := hB
  obtain ⟨b1, b2, b3, b4, b5, b6, b7, b8, b9⟩ := hB
  have n1 : (jI 1 = jI 0) = False := jI_nz (by decide) (by decide)
  have n2 : (jI 2 = jI 0) = False := jI_nz (by decide) (by decide)
  have n3 : (jI 3 = jI 0) = False := jI_nz (by decide) (by decide)
  have hks : k + 1 ≤ 603072 ∧ s + 6 ≤ 7207017 := by omega
  have hks2 : k + 1 + 0 ≤ 603072 ∧ s + 6 + 0 ≤ 7207017 := by omega
  simp (disch := first | assumption | omega) only [s_214_1155, s_214_1156, s_214_1157, s_214_1159, s_214_1160, s_214_1161, s_214_1162, s_214_1163, r_214_1163, s_214_1166, s_214_1168, s_214_1169, s_214_1170, s_214_1172, s_214_1173, s_214_1174, s_214_1175, r_214_1175, s_214_1178, s_214_1180, s_214_1181, r_214_1181, s_214_1184, s_214_1186, s_214_1189, s_214_1190, s_214_1191, s_214_1193, s_214_1196, s_214_1197, s_214_1198, s_214_1199, s_214_1201, s_214_1202, s_214_1203, s_214_1206, s_214_1207, s_214_1208, jI_mul, jI_add, jI_tnc, jI_ixT, true_and, and_true, bZ_0, bZ_1, bZ_b, jI_nz, jI_div, jI_rem, jI_mod, Nat.add_zero, bI_if, not_false_iff, if_true, if_false, eq_self, hsc]
  refine w_placeAgain hG hC (fun q => ?_) (fun k hk ek => ?_)
  · skip
    simp (disch := first | assumption | omega) only [s_214_1155, s_214_1156, s_214_1157, s_214_1159, s_214_1160, s_214_1161, s_214_1162, s_214_1163, r_214_1163, s_214_1166, s_214_1168, s_214_1169, s_214_1170, s_214_1172, s_214_1173, s_214_1174, s_214_1175, r_214_1175, s_214_1178, s_214_1180, s_214_1181, r_214_1181, s_214_1184, s_214_1186, s_214_1189, s_214_1190, s_214_1191, s_214_1193, s_214_1196, s_214_1197, s_214_1198, s_214_1199, s_214_1201, s_214_1202, s_214_1203, s_214_1206, s_214_1207, s_214_1208, jI_mul, jI_add, jI_tnc, jI_ixT, true_and, and_true, bZ_0, bZ_1, bZ_b, jI_nz, jI_div, jI_rem, jI_mod, Nat.add_zero, bI_if, not_false_iff, if_true, if_false, eq_self, hsc]
    have e9 : σ 369 = g := (hR).1
    have e6 : σ 368 6 = jI H.length := (hR).2.1.2.1
    have el : H.length ≤ 8 := (hR).2.1.1
    have e7 : σ 368 7 = jI 0 := (hR).2.2.2.2.1
    rw [MM_MG e9]
    refine m_placeAgain b2 b6 (fun _ => ?_) (fun k hk ek => absurd (hs_mk ek hk (by omega)) q)
    obtain ⟨a1, a2, a3⟩ := RI_code (v := jI 1) hR
    dsimp only at a1 a2 a3
    simp (disch := first | assumption | omega) only [s_214_1155, s_214_1156, s_214_1157, s_214_1159, s_214_1160, s_214_1161, s_214_1162, s_214_1163, r_214_1163, s_214_1166, s_214_1168, s_214_1169, s_214_1170, s_214_1172, s_214_1173, s_214_1174, s_214_1175, r_214_1175, s_214_1178, s_214_1180, s_214_1181, r_214_1181, s_214_1184, s_214_1186, s_214_1189, s_214_1190, s_214_1191, s_214_1193, s_214_1196, s_214_1197, s_214_1198, s_214_1199, s_214_1201, s_214_1202, s_214_1203, s_214_1206, s_214_1207, s_214_1208, jI_mul, jI_add, jI_tnc, jI_ixT, true_and, and_true, bZ_0, bZ_1, bZ_b, jI_nz, jI_div, jI_rem, jI_mod, Nat.add_zero, bI_if, not_false_iff, if_true, if_false, eq_self, m_thrown, a2, n1, if_true, if_false]
    exact HN _ _ _ _ _ _ _ _ _ ⟨CI_pr hG hC a3, a1, hA4⟩ ((a3 SCR (Or.inr SCR_hi)).trans hsc) (by omega) (by omega)
  · skip
    simp (disch := first | assumption | omega) only [s_214_1155, s_214_1156, s_214_1157, s_214_1159, s_214_1160, s_214_1161, s_214_1162, s_214_1163, r_214_1163, s_214_1166, s_214_1168, s_214_1169, s_214_1170, s_214_1172, s_214_1173, s_214_1174, s_214_1175, r_214_1175, s_214_1178, s_214_1180, s_214_1181, r_214_1181, s_214_1184, s_214_1186, s_214_1189, s_214_1190, s_214_1191, s_214_1193, s_214_1196, s_214_1197, s_214_1198, s_214_1199, s_214_1201, s_214_1202, s_214_1203, s_214_1206, s_214_1207, s_214_1208, jI_mul, jI_add, jI_tnc, jI_ixT, true_and, and_true, bZ_0, bZ_1, bZ_b, jI_nz, jI_div, jI_rem, jI_mod, Nat.add_zero, bI_if, not_false_iff, if_true, if_false, eq_self, hsc]
    have e9 : σ 369 = g := (hR).1
    have e6 : σ 368 6 = jI H.length := (hR).2.1.2.1
    have el : H.length ≤ 8 := (hR).2.1.1
    have e7 : σ 368 7 = jI 0 := (hR).2.2.2.2.1
    rw [MM_MG e9]
    refine m_placeAgain b2 b6 (fun q' => absurd (hs_mk ek hk (by omega)) q') (fun k' hk' ek' => ?_)
    obtain rfl : k = k' := jI_c ek ek' (by omega) (by omega)
    rw [place_eq]
    obtain ⟨a1, a2, a3⟩ := RI_code (v := jI 0) hR
    dsimp only at a1 a2 a3
    simp (disch := first | assumption | omega) only [s_214_1155, s_214_1156, s_214_1157, s_214_1159, s_214_1160, s_214_1161, s_214_1162, s_214_1163, r_214_1163, s_214_1166, s_214_1168, s_214_1169, s_214_1170, s_214_1172, s_214_1173, s_214_1174, s_214_1175, r_214_1175, s_214_1178, s_214_1180, s_214_1181, r_214_1181, s_214_1184, s_214_1186, s_214_1189, s_214_1190, s_214_1191, s_214_1193, s_214_1196, s_214_1197, s_214_1198, s_214_1199, s_214_1201, s_214_1202, s_214_1203, s_214_1206, s_214_1207, s_214_1208, jI_mul, jI_add, jI_tnc, jI_ixT, true_and, and_true, bZ_0, bZ_1, bZ_b, jI_nz, jI_div, jI_rem, jI_mod, Nat.add_zero, bI_if, not_false_iff, if_true, if_false, eq_self, m_thrown, a2, u2_lo, lgS, if_true, if_false]
    exact HN _ _ _ _ _ _ _ _ _ ⟨CI_pr hG hC a3, a1, hA4⟩ ((a3 SCR (Or.inr SCR_hi)).trans hsc) (by omega) (by omega)

theorem L_complaint (hL : LInv N σ G) (hN : N ≤ 100000000) (hi : i + 4 < Ln) (hLn : Ln ≤ 100000) (hsc : σ SCR = scr) (hk : k ≤ 603000) (hs : s ≤ 7207000) (HN : NXT N Ln i k s scr K) :
    Ev 214 (1211, [.ref SCR, .ref 0, .ref 368, .ref 377, .ref 378, .int (jI i), v6, v7, v8], [], k, s, MM Ln σ lo db) K := by
  obtain ⟨hC, hR, hA⟩ := hL
  have hG := hA.gd
  obtain ⟨⟨g, oh, ng, nd, nc, h⟩, H, sv, y0, d0, c, len, er⟩ := G
  have hS : Snd (g, oh, ng, nd, nc, h) := hA.1.1
  have hh : h ≤ N := hA.1.2
  have hA4 := hA.mono (show N ≤ N + 4000 by omega)
  obtain ⟨hB, hO, hNG, hAC⟩ := Snd_of hS
  have hBa := Bas_of hB hO
  have hB0 := hB
  obtain ⟨b1, b2, b3, b4, b5, b6, b7, b8, b9⟩ := hB
  have n1 : (jI 1 = jI 0) = False := jI_nz (by decide) (by decide)
  have n2 : (jI 2 = jI 0) = False := jI_nz (by decide) (by decide)
  have n3 : (jI 3 = jI 0) = False := jI_nz (by decide) (by decide)
  have hks : k + 1 ≤ 603072 ∧ s + 6 ≤ 7207017 := by omega
  have hks2 : k + 1 + 0 ≤ 603072 ∧ s + 6 + 0 ≤ 7207017 := by omega
  simp (disch := first | assumption | omega) only [s_214_1211, s_214_1212, s_214_1213, s_214_1215, s_214_1216, s_214_1217, s_214_1218, s_214_1219, s_214_1221, s_214_1222, s_214_1223, s_214_1224, s_214_1227, s_214_1228, s_214_1231, s_214_1232, s_214_1233, r_214_1233, s_214_1236, s_214_1238, s_214_1239, s_214_1240, s_214_1242, s_214_1243, s_214_1244, s_214_1245, s_214_1246, s_214_1248, s_214_1249, s_214_1250, s_214_1251, s_214_1254, s_214_1255, s_214_1258, s_214_1259, r_214_1259, s_214_1262, s_214_1264, s_214_1265, r_214_1265, s_214_1268, s_214_1270, s_214_1273, s_214_1274, s_214_1275, s_214_1277, s_214_1280, s_214_1281, s_214_1282, s_214_1283, s_214_1285, s_214_1286, s_214_1287, s_214_1290, s_214_1291, s_214_1292, jI_mul, jI_add, jI_tnc, jI_ixT, true_and, and_true, bZ_0, bZ_1, bZ_b, jI_nz, jI_div, jI_rem, jI_mod, Nat.add_zero, bI_if, not_false_iff, if_true, if_false, eq_self, hsc]
  by_cases z : scr (i + 2) = jI 0
  · rw [if_pos z]
    refine w_complaint (p := False) hG hC (fun q => ?_) (fun k hk ek => ?_)
    · skip
      simp (disch := first | assumption | omega) only [s_214_1211, s_214_1212, s_214_1213, s_214_1215, s_214_1216, s_214_1217, s_214_1218, s_214_1219, s_214_1221, s_214_1222, s_214_1223, s_214_1224, s_214_1227, s_214_1228, s_214_1231, s_214_1232, s_214_1233, r_214_1233, s_214_1236, s_214_1238, s_214_1239, s_214_1240, s_214_1242, s_214_1243, s_214_1244, s_214_1245, s_214_1246, s_214_1248, s_214_1249, s_214_1250, s_214_1251, s_214_1254, s_214_1255, s_214_1258, s_214_1259, r_214_1259, s_214_1262, s_214_1264, s_214_1265, r_214_1265, s_214_1268, s_214_1270, s_214_1273, s_214_1274, s_214_1275, s_214_1277, s_214_1280, s_214_1281, s_214_1282, s_214_1283, s_214_1285, s_214_1286, s_214_1287, s_214_1290, s_214_1291, s_214_1292, jI_mul, jI_add, jI_tnc, jI_ixT, true_and, and_true, bZ_0, bZ_1, bZ_b, jI_nz, jI_div, jI_rem, jI_mod, Nat.add_zero, bI_if, not_false_iff, if_true, if_false, eq_self, hsc]
      have e9 : σ 369 = g := (hR).1
      have e6 : σ 368 6 = jI H.length := (hR).2.1.2.1
      have el : H.length ≤ 8 := (hR).2.1.1
      have e7 : σ 368 7 = jI 0 := (hR).2.2.2.2.1
      rw [if_pos z, MM_MG e9]
      refine m_complaint (p := False) b3 b7 (fun _ => ?_) (fun k hk ek => absurd (hs_mk ek hk (by omega)) q)
      obtain ⟨a1, a2, a3⟩ := RI_code (v := jI 1) hR
      dsimp only at a1 a2 a3
      simp (disch := first | assumption | omega) only [s_214_1211, s_214_1212, s_214_1213, s_214_1215, s_214_1216, s_214_1217, s_214_1218, s_214_1219, s_214_1221, s_214_1222, s_214_1223, s_214_1224, s_214_1227, s_214_1228, s_214_1231, s_214_1232, s_214_1233, r_214_1233, s_214_1236, s_214_1238, s_214_1239, s_214_1240, s_214_1242, s_214_1243, s_214_1244, s_214_1245, s_214_1246, s_214_1248, s_214_1249, s_214_1250, s_214_1251, s_214_1254, s_214_1255, s_214_1258, s_214_1259, r_214_1259, s_214_1262, s_214_1264, s_214_1265, r_214_1265, s_214_1268, s_214_1270, s_214_1273, s_214_1274, s_214_1275, s_214_1277, s_214_1280, s_214_1281, s_214_1282, s_214_1283, s_214_1285, s_214_1286, s_214_1287, s_214_1290, s_214_1291, s_214_1292, jI_mul, jI_add, jI_tnc, jI_ixT, true_and, and_true, bZ_0, bZ_1, bZ_b, jI_nz, jI_div, jI_rem, jI_mod, Nat.add_zero, bI_if, not_false_iff, if_true, if_false, eq_self, m_thrown, a2, n1, if_true, if_false]
      exact HN _ _ _ _ _ _ _ _ _ ⟨CI_pr hG hC a3, a1, hA4⟩ ((a3 SCR (Or.inr SCR_hi)).trans hsc) (by omega) (by omega)
    · skip
      simp (disch := first | assumption | omega) only [s_214_1211, s_214_1212, s_214_1213, s_214_1215, s_214_1216, s_214_1217, s_214_1218, s_214_1219, s_214_1221, s_214_1222, s_214_1223, s_214_1224, s_214_1227, s_214_1228, s_214_1231, s_214_1232, s_214_1233, r_214_1233, s_214_1236, s_214_1238, s_214_1239, s_214_1240, s_214_1242, s_214_1243, s_214_1244, s_214_1245, s_214_1246, s_214_1248, s_214_1249, s_214_1250, s_214_1251, s_214_1254, s_214_1255, s_214_1258, s_214_1259, r_214_1259, s_214_1262, s_214_1264, s_214_1265, r_214_1265, s_214_1268, s_214_1270, s_214_1273, s_214_1274, s_214_1275, s_214_1277, s_214_1280, s_214_1281, s_214_1282, s_214_1283, s_214_1285, s_214_1286, s_214_1287, s_214_1290, s_214_1291, s_214_1292, jI_mul, jI_add, jI_tnc, jI_ixT, true_and, and_true, bZ_0, bZ_1, bZ_b, jI_nz, jI_div, jI_rem, jI_mod, Nat.add_zero, bI_if, not_false_iff, if_true, if_false, eq_self, hsc]
      have e9 : σ 369 = g := (hR).1
      have e6 : σ 368 6 = jI H.length := (hR).2.1.2.1
      have el : H.length ≤ 8 := (hR).2.1.1
      have e7 : σ 368 7 = jI 0 := (hR).2.2.2.2.1
      rw [if_pos z, MM_MG e9]
      refine m_complaint (p := False) b3 b7 (fun q' => absurd (hs_mk ek hk (by omega)) q') (fun k' hk' ek' => ?_)
      obtain rfl : k = k' := jI_c ek ek' (by omega) (by omega)
      rw [show 183 + 2 * k + 1 = 184 + 2 * k by omega]
      obtain ⟨a1, a2, a3⟩ := RI_code (v := jI 0) hR
      dsimp only at a1 a2 a3
      simp (disch := first | assumption | omega) only [s_214_1211, s_214_1212, s_214_1213, s_214_1215, s_214_1216, s_214_1217, s_214_1218, s_214_1219, s_214_1221, s_214_1222, s_214_1223, s_214_1224, s_214_1227, s_214_1228, s_214_1231, s_214_1232, s_214_1233, r_214_1233, s_214_1236, s_214_1238, s_214_1239, s_214_1240, s_214_1242, s_214_1243, s_214_1244, s_214_1245, s_214_1246, s_214_1248, s_214_1249, s_214_1250, s_214_1251, s_214_1254, s_214_1255, s_214_1258, s_214_1259, r_214_1259, s_214_1262, s_214_1264, s_214_1265, r_214_1265, s_214_1268, s_214_1270, s_214_1273, s_214_1274, s_214_1275, s_214_1277, s_214_1280, s_214_1281, s_214_1282, s_214_1283, s_214_1285, s_214_1286, s_214_1287, s_214_1290, s_214_1291, s_214_1292, jI_mul, jI_add, jI_tnc, jI_ixT, true_and, and_true, bZ_0, bZ_1, bZ_b, jI_nz, jI_div, jI_rem, jI_mod, Nat.add_zero, bI_if, not_false_iff, if_true, if_false, eq_self, m_thrown, a2, u2_lo, lgS, if_true, if_false]
      exact HN _ _ _ _ _ _ _ _ _ ⟨CI_pr hG hC a3, a1, hA4⟩ ((a3 SCR (Or.inr SCR_hi)).trans hsc) (by omega) (by omega)
  · rw [if_neg z]
    refine w_complaint (p := True) hG hC (fun q => ?_) (fun k hk ek => ?_)
    · skip
      simp (disch := first | assumption | omega) only [s_214_1211, s_214_1212, s_214_1213, s_214_1215, s_214_1216, s_214_1217, s_214_1218, s_214_1219, s_214_1221, s_214_1222, s_214_1223, s_214_1224, s_214_1227, s_214_1228, s_214_1231, s_214_1232, s_214_1233, r_214_1233, s_214_1236, s_214_1238, s_214_1239, s_214_1240, s_214_1242, s_214_1243, s_214_1244, s_214_1245, s_214_1246, s_214_1248, s_214_1249, s_214_1250, s_214_1251, s_214_1254, s_214_1255, s_214_1258, s_214_1259, r_214_1259, s_214_1262, s_214_1264, s_214_1265, r_214_1265, s_214_1268, s_214_1270, s_214_1273, s_214_1274, s_214_1275, s_214_1277, s_214_1280, s_214_1281, s_214_1282, s_214_1283, s_214_1285, s_214_1286, s_214_1287, s_214_1290, s_214_1291, s_214_1292, jI_mul, jI_add, jI_tnc, jI_ixT, true_and, and_true, bZ_0, bZ_1, bZ_b, jI_nz, jI_div, jI_rem, jI_mod, Nat.add_zero, bI_if, not_false_iff, if_true, if_false, eq_self, hsc]
      have e9 : σ 369 = g := (hR).1
      have e6 : σ 368 6 = jI H.length := (hR).2.1.2.1
      have el : H.length ≤ 8 := (hR).2.1.1
      have e7 : σ 368 7 = jI 0 := (hR).2.2.2.2.1
      rw [if_neg z, MM_MG e9]
      refine m_complaint (p := True) b3 b7 (fun _ => ?_) (fun k hk ek => absurd (hs_mk ek hk (by omega)) q)
      obtain ⟨a1, a2, a3⟩ := RI_code (v := jI 1) hR
      dsimp only at a1 a2 a3
      simp (disch := first | assumption | omega) only [s_214_1211, s_214_1212, s_214_1213, s_214_1215, s_214_1216, s_214_1217, s_214_1218, s_214_1219, s_214_1221, s_214_1222, s_214_1223, s_214_1224, s_214_1227, s_214_1228, s_214_1231, s_214_1232, s_214_1233, r_214_1233, s_214_1236, s_214_1238, s_214_1239, s_214_1240, s_214_1242, s_214_1243, s_214_1244, s_214_1245, s_214_1246, s_214_1248, s_214_1249, s_214_1250, s_214_1251, s_214_1254, s_214_1255, s_214_1258, s_214_1259, r_214_1259, s_214_1262, s_214_1264, s_214_1265, r_214_1265, s_214_1268, s_214_1270, s_214_1273, s_214_1274, s_214_1275, s_214_1277, s_214_1280, s_214_1281, s_214_1282, s_214_1283, s_214_1285, s_214_1286, s_214_1287, s_214_1290, s_214_1291, s_214_1292, jI_mul, jI_add, jI_tnc, jI_ixT, true_and, and_true, bZ_0, bZ_1, bZ_b, jI_nz, jI_div, jI_rem, jI_mod, Nat.add_zero, bI_if, not_false_iff, if_true, if_false, eq_self, m_thrown, a2, n1, if_true, if_false]
      exact HN _ _ _ _ _ _ _ _ _ ⟨CI_pr hG hC a3, a1, hA4⟩ ((a3 SCR (Or.inr SCR_hi)).trans hsc) (by omega) (by omega)
    · skip
      simp (disch := first | assumption | omega) only [s_214_1211, s_214_1212, s_214_1213, s_214_1215, s_214_1216, s_214_1217, s_214_1218, s_214_1219, s_214_1221, s_214_1222, s_214_1223, s_214_1224, s_214_1227, s_214_1228, s_214_1231, s_214_1232, s_214_1233, r_214_1233, s_214_1236, s_214_1238, s_214_1239, s_214_1240, s_214_1242, s_214_1243, s_214_1244, s_214_1245, s_214_1246, s_214_1248, s_214_1249, s_214_1250, s_214_1251, s_214_1254, s_214_1255, s_214_1258, s_214_1259, r_214_1259, s_214_1262, s_214_1264, s_214_1265, r_214_1265, s_214_1268, s_214_1270, s_214_1273, s_214_1274, s_214_1275, s_214_1277, s_214_1280, s_214_1281, s_214_1282, s_214_1283, s_214_1285, s_214_1286, s_214_1287, s_214_1290, s_214_1291, s_214_1292, jI_mul, jI_add, jI_tnc, jI_ixT, true_and, and_true, bZ_0, bZ_1, bZ_b, jI_nz, jI_div, jI_rem, jI_mod, Nat.add_zero, bI_if, not_false_iff, if_true, if_false, eq_self, hsc]
      have e9 : σ 369 = g := (hR).1
      have e6 : σ 368 6 = jI H.length := (hR).2.1.2.1
      have el : H.length ≤ 8 := (hR).2.1.1
      have e7 : σ 368 7 = jI 0 := (hR).2.2.2.2.1
      rw [if_neg z, MM_MG e9]
      refine m_complaint (p := True) b3 b7 (fun q' => absurd (hs_mk ek hk (by omega)) q') (fun k' hk' ek' => ?_)
      obtain rfl : k = k' := jI_c ek ek' (by omega) (by omega)
      rw [show 183 + 2 * k + 1 = 184 + 2 * k by omega]
      obtain ⟨a1, a2, a3⟩ := RI_code (v := jI 0) hR
      dsimp only at a1 a2 a3
      simp (disch := first | assumption | omega) only [s_214_1211, s_214_1212, s_214_1213, s_214_1215, s_214_1216, s_214_1217, s_214_1218, s_214_1219, s_214_1221, s_214_1222, s_214_1223, s_214_1224, s_214_1227, s_214_1228, s_214_1231, s_214_1232, s_214_1233, r_214_1233, s_214_1236, s_214_1238, s_214_1239, s_214_1240, s_214_1242, s_214_1243, s_214_1244, s_214_1245, s_214_1246, s_214_1248, s_214_1249, s_214_1250, s_214_1251, s_214_1254, s_214_1255, s_214_1258, s_214_1259, r_214_1259, s_214_1262, s_214_1264, s_214_1265, r_214_1265, s_214_1268, s_214_1270, s_214_1273, s_214_1274, s_214_1275, s_214_1277, s_214_1280, s_214_1281, s_214_1282, s_214_1283, s_214_1285, s_214_1286, s_214_1287, s_214_1290, s_214_1291, s_214_1292, jI_mul, jI_add, jI_tnc, jI_ixT, true_and, and_true, bZ_0, bZ_1, bZ_b, jI_nz, jI_div, jI_rem, jI_mod, Nat.add_zero, bI_if, not_false_iff, if_true, if_false, eq_self, m_thrown, a2, u2_lo, lgS, if_true, if_false]
      exact HN _ _ _ _ _ _ _ _ _ ⟨CI_pr hG hC a3, a1, hA4⟩ ((a3 SCR (Or.inr SCR_hi)).trans hsc) (by omega) (by omega)

theorem L_sign (hL : LInv N σ G) (hN : N ≤ 100000000) (hi : i + 4 < Ln) (hLn : Ln ≤ 100000) (hsc : σ SCR = scr) (hk : k ≤ 603000) (hs : s ≤ 7207000) (HN : NXT N Ln i k s scr K) :
    Ev 214 (1295, [.ref SCR, .ref 0, .ref 368, .ref 377, .ref 378, .int (jI i), v6, v7, v8], [], k, s, MM Ln σ lo db) K := by
  obtain ⟨hC, hR, hA⟩ := hL
  have hG := hA.gd
  obtain ⟨⟨g, oh, ng, nd, nc, h⟩, H, sv, y0, d0, c, len, er⟩ := G
  have hS : Snd (g, oh, ng, nd, nc, h) := hA.1.1
  have hh : h ≤ N := hA.1.2
  have hA4 := hA.mono (show N ≤ N + 4000 by omega)
  obtain ⟨hB, hO, hNG, hAC⟩ := Snd_of hS
  have hBa := Bas_of hB hO
  have hB0 := hB
  obtain ⟨b1, b2, b3, b4, b5, b6, b7, b8, b9⟩ := hB
  have n1 : (jI 1 = jI 0) = False := jI_nz (by decide) (by decide)
  have n2 : (jI 2 = jI 0) = False := jI_nz (by decide) (by decide)
  have n3 : (jI 3 = jI 0) = False := jI_nz (by decide) (by decide)
  have hks : k + 1 ≤ 603072 ∧ s + 6 ≤ 7207017 := by omega
  have hks2 : k + 1 + 0 ≤ 603072 ∧ s + 6 + 0 ≤ 7207017 := by omega
  simp (disch := first | assumption | omega) only [s_214_1295, s_214_1296, s_214_1297, s_214_1299, s_214_1300, s_214_1301, s_214_1302, s_214_1303, r_214_1303, s_214_1306, s_214_1308, s_214_1309, s_214_1310, s_214_1312, s_214_1313, s_214_1314, s_214_1315, r_214_1315, s_214_1318, s_214_1320, s_214_1321, r_214_1321, s_214_1324, s_214_1326, s_214_1329, s_214_1330, s_214_1331, s_214_1333, s_214_1336, s_214_1337, s_214_1338, s_214_1339, s_214_1341, s_214_1342, s_214_1343, s_214_1346, s_214_1347, s_214_1348, jI_mul, jI_add, jI_tnc, jI_ixT, true_and, and_true, bZ_0, bZ_1, bZ_b, jI_nz, jI_div, jI_rem, jI_mod, Nat.add_zero, bI_if, not_false_iff, if_true, if_false, eq_self, hsc]
  refine w_sign hG hC (fun q => ?_) (fun k hk ek => ?_)
  · skip
    simp (disch := first | assumption | omega) only [s_214_1295, s_214_1296, s_214_1297, s_214_1299, s_214_1300, s_214_1301, s_214_1302, s_214_1303, r_214_1303, s_214_1306, s_214_1308, s_214_1309, s_214_1310, s_214_1312, s_214_1313, s_214_1314, s_214_1315, r_214_1315, s_214_1318, s_214_1320, s_214_1321, r_214_1321, s_214_1324, s_214_1326, s_214_1329, s_214_1330, s_214_1331, s_214_1333, s_214_1336, s_214_1337, s_214_1338, s_214_1339, s_214_1341, s_214_1342, s_214_1343, s_214_1346, s_214_1347, s_214_1348, jI_mul, jI_add, jI_tnc, jI_ixT, true_and, and_true, bZ_0, bZ_1, bZ_b, jI_nz, jI_div, jI_rem, jI_mod, Nat.add_zero, bI_if, not_false_iff, if_true, if_false, eq_self, hsc]
    have e9 : σ 369 = g := (hR).1
    have e6 : σ 368 6 = jI H.length := (hR).2.1.2.1
    have el : H.length ≤ 8 := (hR).2.1.1
    have e7 : σ 368 7 = jI 0 := (hR).2.2.2.2.1
    rw [MM_MG e9]
    refine m_sign b2 b6 (fun _ => ?_) (fun k hk ek => absurd (hs_mk ek hk (by omega)) q)
    obtain ⟨a1, a2, a3⟩ := RI_code (v := jI 1) hR
    dsimp only at a1 a2 a3
    simp (disch := first | assumption | omega) only [s_214_1295, s_214_1296, s_214_1297, s_214_1299, s_214_1300, s_214_1301, s_214_1302, s_214_1303, r_214_1303, s_214_1306, s_214_1308, s_214_1309, s_214_1310, s_214_1312, s_214_1313, s_214_1314, s_214_1315, r_214_1315, s_214_1318, s_214_1320, s_214_1321, r_214_1321, s_214_1324, s_214_1326, s_214_1329, s_214_1330, s_214_1331, s_214_1333, s_214_1336, s_214_1337, s_214_1338, s_214_1339, s_214_1341, s_214_1342, s_214_1343, s_214_1346, s_214_1347, s_214_1348, jI_mul, jI_add, jI_tnc, jI_ixT, true_and, and_true, bZ_0, bZ_1, bZ_b, jI_nz, jI_div, jI_rem, jI_mod, Nat.add_zero, bI_if, not_false_iff, if_true, if_false, eq_self, m_thrown, a2, n1, if_true, if_false]
    exact HN _ _ _ _ _ _ _ _ _ ⟨CI_pr hG hC a3, a1, hA4⟩ ((a3 SCR (Or.inr SCR_hi)).trans hsc) (by omega) (by omega)
  · skip
    simp (disch := first | assumption | omega) only [s_214_1295, s_214_1296, s_214_1297, s_214_1299, s_214_1300, s_214_1301, s_214_1302, s_214_1303, r_214_1303, s_214_1306, s_214_1308, s_214_1309, s_214_1310, s_214_1312, s_214_1313, s_214_1314, s_214_1315, r_214_1315, s_214_1318, s_214_1320, s_214_1321, r_214_1321, s_214_1324, s_214_1326, s_214_1329, s_214_1330, s_214_1331, s_214_1333, s_214_1336, s_214_1337, s_214_1338, s_214_1339, s_214_1341, s_214_1342, s_214_1343, s_214_1346, s_214_1347, s_214_1348, jI_mul, jI_add, jI_tnc, jI_ixT, true_and, and_true, bZ_0, bZ_1, bZ_b, jI_nz, jI_div, jI_rem, jI_mod, Nat.add_zero, bI_if, not_false_iff, if_true, if_false, eq_self, hsc]
    have e9 : σ 369 = g := (hR).1
    have e6 : σ 368 6 = jI H.length := (hR).2.1.2.1
    have el : H.length ≤ 8 := (hR).2.1.1
    have e7 : σ 368 7 = jI 0 := (hR).2.2.2.2.1
    rw [MM_MG e9]
    refine m_sign b2 b6 (fun q' => absurd (hs_mk ek hk (by omega)) q') (fun k' hk' ek' => ?_)
    obtain rfl : k = k' := jI_c ek ek' (by omega) (by omega)
    obtain ⟨a1, a2, a3⟩ := RI_code (v := jI 0) hR
    dsimp only at a1 a2 a3
    simp (disch := first | assumption | omega) only [s_214_1295, s_214_1296, s_214_1297, s_214_1299, s_214_1300, s_214_1301, s_214_1302, s_214_1303, r_214_1303, s_214_1306, s_214_1308, s_214_1309, s_214_1310, s_214_1312, s_214_1313, s_214_1314, s_214_1315, r_214_1315, s_214_1318, s_214_1320, s_214_1321, r_214_1321, s_214_1324, s_214_1326, s_214_1329, s_214_1330, s_214_1331, s_214_1333, s_214_1336, s_214_1337, s_214_1338, s_214_1339, s_214_1341, s_214_1342, s_214_1343, s_214_1346, s_214_1347, s_214_1348, jI_mul, jI_add, jI_tnc, jI_ixT, true_and, and_true, bZ_0, bZ_1, bZ_b, jI_nz, jI_div, jI_rem, jI_mod, Nat.add_zero, bI_if, not_false_iff, if_true, if_false, eq_self, m_thrown, a2, u2_lo, lgS, if_true, if_false]
    exact HN _ _ _ _ _ _ _ _ _ ⟨CI_pr hG hC a3, a1, hA4⟩ ((a3 SCR (Or.inr SCR_hi)).trans hsc) (by omega) (by omega)

theorem L_part (hL : LInv N σ G) (hN : N ≤ 100000000) (hi : i + 4 < Ln) (hLn : Ln ≤ 100000) (hsc : σ SCR = scr) (hk : k ≤ 603000) (hs : s ≤ 7207000) (HN : NXT N Ln i k s scr K) :
    Ev 214 (1351, [.ref SCR, .ref 0, .ref 368, .ref 377, .ref 378, .int (jI i), v6, v7, v8], [], k, s, MM Ln σ lo db) K := by
  obtain ⟨hC, hR, hA⟩ := hL
  have hG := hA.gd
  obtain ⟨⟨g, oh, ng, nd, nc, h⟩, H, sv, y0, d0, c, len, er⟩ := G
  have hS : Snd (g, oh, ng, nd, nc, h) := hA.1.1
  have hh : h ≤ N := hA.1.2
  have hA4 := hA.mono (show N ≤ N + 4000 by omega)
  obtain ⟨hB, hO, hNG, hAC⟩ := Snd_of hS
  have hBa := Bas_of hB hO
  have hB0 := hB
  obtain ⟨b1, b2, b3, b4, b5, b6, b7, b8, b9⟩ := hB
  have n1 : (jI 1 = jI 0) = False := jI_nz (by decide) (by decide)
  have n2 : (jI 2 = jI 0) = False := jI_nz (by decide) (by decide)
  have n3 : (jI 3 = jI 0) = False := jI_nz (by decide) (by decide)
  have hks : k + 1 ≤ 603072 ∧ s + 6 ≤ 7207017 := by omega
  have hks2 : k + 1 + 0 ≤ 603072 ∧ s + 6 + 0 ≤ 7207017 := by omega
  simp (disch := first | assumption | omega) only [s_214_1351, s_214_1352, s_214_1353, s_214_1355, s_214_1356, s_214_1357, s_214_1358, s_214_1359, s_214_1361, s_214_1362, s_214_1363, s_214_1364, s_214_1365, r_214_1365, s_214_1368, s_214_1370, s_214_1371, s_214_1372, s_214_1374, s_214_1375, s_214_1376, s_214_1377, s_214_1378, s_214_1380, s_214_1381, s_214_1382, s_214_1383, r_214_1383, s_214_1386, s_214_1388, s_214_1389, r_214_1389, s_214_1392, s_214_1394, s_214_1397, s_214_1398, s_214_1399, s_214_1401, s_214_1404, s_214_1405, s_214_1406, s_214_1407, s_214_1409, s_214_1410, s_214_1411, s_214_1414, s_214_1415, s_214_1416, jI_mul, jI_add, jI_tnc, jI_ixT, true_and, and_true, bZ_0, bZ_1, bZ_b, jI_nz, jI_div, jI_rem, jI_mod, Nat.add_zero, bI_if, not_false_iff, if_true, if_false, eq_self, hsc]
  refine w_part hG hC (fun q => ?_) (fun k st hk ek hst est => ?_)
  · skip
    simp (disch := first | assumption | omega) only [s_214_1351, s_214_1352, s_214_1353, s_214_1355, s_214_1356, s_214_1357, s_214_1358, s_214_1359, s_214_1361, s_214_1362, s_214_1363, s_214_1364, s_214_1365, r_214_1365, s_214_1368, s_214_1370, s_214_1371, s_214_1372, s_214_1374, s_214_1375, s_214_1376, s_214_1377, s_214_1378, s_214_1380, s_214_1381, s_214_1382, s_214_1383, r_214_1383, s_214_1386, s_214_1388, s_214_1389, r_214_1389, s_214_1392, s_214_1394, s_214_1397, s_214_1398, s_214_1399, s_214_1401, s_214_1404, s_214_1405, s_214_1406, s_214_1407, s_214_1409, s_214_1410, s_214_1411, s_214_1414, s_214_1415, s_214_1416, jI_mul, jI_add, jI_tnc, jI_ixT, true_and, and_true, bZ_0, bZ_1, bZ_b, jI_nz, jI_div, jI_rem, jI_mod, Nat.add_zero, bI_if, not_false_iff, if_true, if_false, eq_self, hsc]
    have e9 : σ 369 = g := (hR).1
    have e6 : σ 368 6 = jI H.length := (hR).2.1.2.1
    have el : H.length ≤ 8 := (hR).2.1.1
    have e7 : σ 368 7 = jI 0 := (hR).2.2.2.2.1
    rw [MM_MG e9]
    refine m_part b1 b5 b2 b6 (fun _ => ?_) (fun k st hk _ hq => sh_nz b1 b2 b9 hk hq) (fun k st hk ek hst est => absurd ⟨hs_mk ek hk (by omega), hs_mk est hst (by omega)⟩ q)
    obtain ⟨a1, a2, a3⟩ := RI_code (v := jI 1) hR
    dsimp only at a1 a2 a3
    simp (disch := first | assumption | omega) only [s_214_1351, s_214_1352, s_214_1353, s_214_1355, s_214_1356, s_214_1357, s_214_1358, s_214_1359, s_214_1361, s_214_1362, s_214_1363, s_214_1364, s_214_1365, r_214_1365, s_214_1368, s_214_1370, s_214_1371, s_214_1372, s_214_1374, s_214_1375, s_214_1376, s_214_1377, s_214_1378, s_214_1380, s_214_1381, s_214_1382, s_214_1383, r_214_1383, s_214_1386, s_214_1388, s_214_1389, r_214_1389, s_214_1392, s_214_1394, s_214_1397, s_214_1398, s_214_1399, s_214_1401, s_214_1404, s_214_1405, s_214_1406, s_214_1407, s_214_1409, s_214_1410, s_214_1411, s_214_1414, s_214_1415, s_214_1416, jI_mul, jI_add, jI_tnc, jI_ixT, true_and, and_true, bZ_0, bZ_1, bZ_b, jI_nz, jI_div, jI_rem, jI_mod, Nat.add_zero, bI_if, not_false_iff, if_true, if_false, eq_self, m_thrown, a2, n1, if_true, if_false]
    exact HN _ _ _ _ _ _ _ _ _ ⟨CI_pr hG hC a3, a1, hA4⟩ ((a3 SCR (Or.inr SCR_hi)).trans hsc) (by omega) (by omega)
  · skip
    simp (disch := first | assumption | omega) only [s_214_1351, s_214_1352, s_214_1353, s_214_1355, s_214_1356, s_214_1357, s_214_1358, s_214_1359, s_214_1361, s_214_1362, s_214_1363, s_214_1364, s_214_1365, r_214_1365, s_214_1368, s_214_1370, s_214_1371, s_214_1372, s_214_1374, s_214_1375, s_214_1376, s_214_1377, s_214_1378, s_214_1380, s_214_1381, s_214_1382, s_214_1383, r_214_1383, s_214_1386, s_214_1388, s_214_1389, r_214_1389, s_214_1392, s_214_1394, s_214_1397, s_214_1398, s_214_1399, s_214_1401, s_214_1404, s_214_1405, s_214_1406, s_214_1407, s_214_1409, s_214_1410, s_214_1411, s_214_1414, s_214_1415, s_214_1416, jI_mul, jI_add, jI_tnc, jI_ixT, true_and, and_true, bZ_0, bZ_1, bZ_b, jI_nz, jI_div, jI_rem, jI_mod, Nat.add_zero, bI_if, not_false_iff, if_true, if_false, eq_self, hsc]
    have e9 : σ 369 = g := (hR).1
    have e6 : σ 368 6 = jI H.length := (hR).2.1.2.1
    have el : H.length ≤ 8 := (hR).2.1.1
    have e7 : σ 368 7 = jI 0 := (hR).2.2.2.2.1
    rw [MM_MG e9]
    refine m_part b1 b5 b2 b6 (fun q' => absurd ⟨hs_mk ek hk (by omega), hs_mk est hst (by omega)⟩ q') (fun k st hk _ hq => sh_nz b1 b2 b9 hk hq) (fun k' st' hk' ek' hst' est' => ?_)
    obtain rfl : k = k' := jI_c ek ek' (by omega) (by omega)
    obtain rfl : st = st' := jI_c est est' (by omega) (by omega)
    obtain ⟨a1, a2, a3⟩ := RI_code (v := jI 0) hR
    dsimp only at a1 a2 a3
    simp (disch := first | assumption | omega) only [s_214_1351, s_214_1352, s_214_1353, s_214_1355, s_214_1356, s_214_1357, s_214_1358, s_214_1359, s_214_1361, s_214_1362, s_214_1363, s_214_1364, s_214_1365, r_214_1365, s_214_1368, s_214_1370, s_214_1371, s_214_1372, s_214_1374, s_214_1375, s_214_1376, s_214_1377, s_214_1378, s_214_1380, s_214_1381, s_214_1382, s_214_1383, r_214_1383, s_214_1386, s_214_1388, s_214_1389, r_214_1389, s_214_1392, s_214_1394, s_214_1397, s_214_1398, s_214_1399, s_214_1401, s_214_1404, s_214_1405, s_214_1406, s_214_1407, s_214_1409, s_214_1410, s_214_1411, s_214_1414, s_214_1415, s_214_1416, jI_mul, jI_add, jI_tnc, jI_ixT, true_and, and_true, bZ_0, bZ_1, bZ_b, jI_nz, jI_div, jI_rem, jI_mod, Nat.add_zero, bI_if, not_false_iff, if_true, if_false, eq_self, m_thrown, a2, u2_lo, lgS, if_true, if_false]
    exact HN _ _ _ _ _ _ _ _ _ ⟨CI_pr hG hC a3, a1, hA4⟩ ((a3 SCR (Or.inr SCR_hi)).trans hsc) (by omega) (by omega)

theorem L_ahead (hL : LInv N σ G) (hN : N ≤ 100000000) (hi : i + 4 < Ln) (hLn : Ln ≤ 100000) (hsc : σ SCR = scr) (hk : k ≤ 603000) (hs : s ≤ 7207000) (HN : NXT N Ln i k s scr K) :
    Ev 214 (1419, [.ref SCR, .ref 0, .ref 368, .ref 377, .ref 378, .int (jI i), v6, v7, v8], [], k, s, MM Ln σ lo db) K := by
  obtain ⟨hC, hR, hA⟩ := hL
  have hG := hA.gd
  obtain ⟨⟨g, oh, ng, nd, nc, h⟩, H, sv, y0, d0, c, len, er⟩ := G
  have hS : Snd (g, oh, ng, nd, nc, h) := hA.1.1
  have hh : h ≤ N := hA.1.2
  have hA4 := hA.mono (show N ≤ N + 4000 by omega)
  obtain ⟨hB, hO, hNG, hAC⟩ := Snd_of hS
  have hBa := Bas_of hB hO
  have hB0 := hB
  obtain ⟨b1, b2, b3, b4, b5, b6, b7, b8, b9⟩ := hB
  have n1 : (jI 1 = jI 0) = False := jI_nz (by decide) (by decide)
  have n2 : (jI 2 = jI 0) = False := jI_nz (by decide) (by decide)
  have n3 : (jI 3 = jI 0) = False := jI_nz (by decide) (by decide)
  have hks : k + 1 ≤ 603072 ∧ s + 6 ≤ 7207017 := by omega
  have hks2 : k + 1 + 0 ≤ 603072 ∧ s + 6 + 0 ≤ 7207017 := by omega
  simp (disch := first | assumption | omega) only [s_214_1419, s_214_1420, s_214_1421, s_214_1423, s_214_1424, s_214_1425, s_214_1426, s_214_1427, s_214_1429, s_214_1430, s_214_1431, s_214_1432, s_214_1433, r_214_1433, s_214_1436, s_214_1438, s_214_1439, s_214_1440, s_214_1442, s_214_1443, s_214_1444, s_214_1445, s_214_1446, s_214_1448, s_214_1449, s_214_1450, s_214_1451, r_214_1451, s_214_1454, s_214_1456, s_214_1457, r_214_1457, s_214_1460, s_214_1462, s_214_1465, s_214_1466, s_214_1467, s_214_1469, s_214_1472, s_214_1473, s_214_1474, s_214_1475, s_214_1477, s_214_1478, s_214_1479, s_214_1482, s_214_1483, s_214_1484, jI_mul, jI_add, jI_tnc, jI_ixT, true_and, and_true, bZ_0, bZ_1, bZ_b, jI_nz, jI_div, jI_rem, jI_mod, Nat.add_zero, bI_if, not_false_iff, if_true, if_false, eq_self, hsc]
  refine w_ahead (by omega) hG hC (fun q => ?_) (fun q q1 => ?_) (fun k n hk ek n0 n5 en σ1 hC1 p1 => ?_)
  · skip
    simp (disch := first | assumption | omega) only [s_214_1419, s_214_1420, s_214_1421, s_214_1423, s_214_1424, s_214_1425, s_214_1426, s_214_1427, s_214_1429, s_214_1430, s_214_1431, s_214_1432, s_214_1433, r_214_1433, s_214_1436, s_214_1438, s_214_1439, s_214_1440, s_214_1442, s_214_1443, s_214_1444, s_214_1445, s_214_1446, s_214_1448, s_214_1449, s_214_1450, s_214_1451, r_214_1451, s_214_1454, s_214_1456, s_214_1457, r_214_1457, s_214_1460, s_214_1462, s_214_1465, s_214_1466, s_214_1467, s_214_1469, s_214_1472, s_214_1473, s_214_1474, s_214_1475, s_214_1477, s_214_1478, s_214_1479, s_214_1482, s_214_1483, s_214_1484, jI_mul, jI_add, jI_tnc, jI_ixT, true_and, and_true, bZ_0, bZ_1, bZ_b, jI_nz, jI_div, jI_rem, jI_mod, Nat.add_zero, bI_if, not_false_iff, if_true, if_false, eq_self, hsc]
    have e9 : σ 369 = g := (hR).1
    have e6 : σ 368 6 = jI H.length := (hR).2.1.2.1
    have el : H.length ≤ 8 := (hR).2.1.1
    have e7 : σ 368 7 = jI 0 := (hR).2.2.2.2.1
    rw [MM_MG e9]
    refine m_ahead' hBa (by omega) (fun _ => ?_) (fun q' => absurd q' q) (fun k n σ2 hk ek => absurd (hs_mk ek hk (by omega)) q)
    obtain ⟨a1, a2, a3⟩ := RI_code (v := jI 1) hR
    dsimp only at a1 a2 a3
    simp (disch := first | assumption | omega) only [s_214_1419, s_214_1420, s_214_1421, s_214_1423, s_214_1424, s_214_1425, s_214_1426, s_214_1427, s_214_1429, s_214_1430, s_214_1431, s_214_1432, s_214_1433, r_214_1433, s_214_1436, s_214_1438, s_214_1439, s_214_1440, s_214_1442, s_214_1443, s_214_1444, s_214_1445, s_214_1446, s_214_1448, s_214_1449, s_214_1450, s_214_1451, r_214_1451, s_214_1454, s_214_1456, s_214_1457, r_214_1457, s_214_1460, s_214_1462, s_214_1465, s_214_1466, s_214_1467, s_214_1469, s_214_1472, s_214_1473, s_214_1474, s_214_1475, s_214_1477, s_214_1478, s_214_1479, s_214_1482, s_214_1483, s_214_1484, jI_mul, jI_add, jI_tnc, jI_ixT, true_and, and_true, bZ_0, bZ_1, bZ_b, jI_nz, jI_div, jI_rem, jI_mod, Nat.add_zero, bI_if, not_false_iff, if_true, if_false, eq_self, m_thrown, a2, n1, if_true, if_false]
    exact HN _ _ _ _ _ _ _ _ _ ⟨CI_pr hG hC a3, a1, hA4⟩ ((a3 SCR (Or.inr SCR_hi)).trans hsc) (by omega) (by omega)
  · skip
    simp (disch := first | assumption | omega) only [s_214_1419, s_214_1420, s_214_1421, s_214_1423, s_214_1424, s_214_1425, s_214_1426, s_214_1427, s_214_1429, s_214_1430, s_214_1431, s_214_1432, s_214_1433, r_214_1433, s_214_1436, s_214_1438, s_214_1439, s_214_1440, s_214_1442, s_214_1443, s_214_1444, s_214_1445, s_214_1446, s_214_1448, s_214_1449, s_214_1450, s_214_1451, r_214_1451, s_214_1454, s_214_1456, s_214_1457, r_214_1457, s_214_1460, s_214_1462, s_214_1465, s_214_1466, s_214_1467, s_214_1469, s_214_1472, s_214_1473, s_214_1474, s_214_1475, s_214_1477, s_214_1478, s_214_1479, s_214_1482, s_214_1483, s_214_1484, jI_mul, jI_add, jI_tnc, jI_ixT, true_and, and_true, bZ_0, bZ_1, bZ_b, jI_nz, jI_div, jI_rem, jI_mod, Nat.add_zero, bI_if, not_false_iff, if_true, if_false, eq_self, hsc]
    have e9 : σ 369 = g := (hR).1
    have e6 : σ 368 6 = jI H.length := (hR).2.1.2.1
    have el : H.length ≤ 8 := (hR).2.1.1
    have e7 : σ 368 7 = jI 0 := (hR).2.2.2.2.1
    rw [MM_MG e9]
    refine m_ahead' hBa (by omega) (fun q' => absurd q q') (fun _ _ => ?_) (fun k n σ2 _ _ n0 n5 en => absurd (rng_mk en n0 n5 (by decide)) q1)
    obtain ⟨a1, a2, a3⟩ := RI_code (v := jI 2) hR
    dsimp only at a1 a2 a3
    simp (disch := first | assumption | omega) only [s_214_1419, s_214_1420, s_214_1421, s_214_1423, s_214_1424, s_214_1425, s_214_1426, s_214_1427, s_214_1429, s_214_1430, s_214_1431, s_214_1432, s_214_1433, r_214_1433, s_214_1436, s_214_1438, s_214_1439, s_214_1440, s_214_1442, s_214_1443, s_214_1444, s_214_1445, s_214_1446, s_214_1448, s_214_1449, s_214_1450, s_214_1451, r_214_1451, s_214_1454, s_214_1456, s_214_1457, r_214_1457, s_214_1460, s_214_1462, s_214_1465, s_214_1466, s_214_1467, s_214_1469, s_214_1472, s_214_1473, s_214_1474, s_214_1475, s_214_1477, s_214_1478, s_214_1479, s_214_1482, s_214_1483, s_214_1484, jI_mul, jI_add, jI_tnc, jI_ixT, true_and, and_true, bZ_0, bZ_1, bZ_b, jI_nz, jI_div, jI_rem, jI_mod, Nat.add_zero, bI_if, not_false_iff, if_true, if_false, eq_self, m_thrown, a2, n2, if_true, if_false]
    exact HN _ _ _ _ _ _ _ _ _ ⟨CI_pr hG hC a3, a1, hA4⟩ ((a3 SCR (Or.inr SCR_hi)).trans hsc) (by omega) (by omega)
  · skip
    have hR1 := RI_pc hR p1
    have hsc1 : σ1 SCR = scr := (p1 SCR (by have := SCR_hi; omega)).trans hsc
    simp (disch := first | assumption | omega) only [s_214_1419, s_214_1420, s_214_1421, s_214_1423, s_214_1424, s_214_1425, s_214_1426, s_214_1427, s_214_1429, s_214_1430, s_214_1431, s_214_1432, s_214_1433, r_214_1433, s_214_1436, s_214_1438, s_214_1439, s_214_1440, s_214_1442, s_214_1443, s_214_1444, s_214_1445, s_214_1446, s_214_1448, s_214_1449, s_214_1450, s_214_1451, r_214_1451, s_214_1454, s_214_1456, s_214_1457, r_214_1457, s_214_1460, s_214_1462, s_214_1465, s_214_1466, s_214_1467, s_214_1469, s_214_1472, s_214_1473, s_214_1474, s_214_1475, s_214_1477, s_214_1478, s_214_1479, s_214_1482, s_214_1483, s_214_1484, jI_mul, jI_add, jI_tnc, jI_ixT, true_and, and_true, bZ_0, bZ_1, bZ_b, jI_nz, jI_div, jI_rem, jI_mod, Nat.add_zero, bI_if, not_false_iff, if_true, if_false, eq_self, hsc1]
    have e9 : σ1 369 = g := (hR1).1
    have e6 : σ1 368 6 = jI H.length := (hR1).2.1.2.1
    have el : H.length ≤ 8 := (hR1).2.1.1
    have e7 : σ1 368 7 = jI 0 := (hR1).2.2.2.2.1
    rw [MM_MG e9]
    refine m_ahead' hBa (by omega) (fun q' => absurd (hs_mk ek hk (by omega)) q') (fun _ q' => absurd (rng_mk en n0 n5 (by decide)) q') (fun k' n' σ2 hk' ek' n0' n5' en' f1 f2 => ?_)
    obtain rfl : k = k' := jI_c ek ek' (by omega) (by omega)
    obtain rfl : n = n' := jI_c en en' (by omega) (by omega)
    obtain ⟨a1, a2, a3⟩ := RI_tr0 (τ := σ2) hR1 f1 f2
    dsimp only at a1 a2 a3
    simp (disch := first | assumption | omega) only [s_214_1419, s_214_1420, s_214_1421, s_214_1423, s_214_1424, s_214_1425, s_214_1426, s_214_1427, s_214_1429, s_214_1430, s_214_1431, s_214_1432, s_214_1433, r_214_1433, s_214_1436, s_214_1438, s_214_1439, s_214_1440, s_214_1442, s_214_1443, s_214_1444, s_214_1445, s_214_1446, s_214_1448, s_214_1449, s_214_1450, s_214_1451, r_214_1451, s_214_1454, s_214_1456, s_214_1457, r_214_1457, s_214_1460, s_214_1462, s_214_1465, s_214_1466, s_214_1467, s_214_1469, s_214_1472, s_214_1473, s_214_1474, s_214_1475, s_214_1477, s_214_1478, s_214_1479, s_214_1482, s_214_1483, s_214_1484, jI_mul, jI_add, jI_tnc, jI_ixT, true_and, and_true, bZ_0, bZ_1, bZ_b, jI_nz, jI_div, jI_rem, jI_mod, Nat.add_zero, bI_if, not_false_iff, if_true, if_false, eq_self, m_thrown, a2, u2_lo, lgS, if_true, if_false]
    exact HN _ _ _ _ _ _ _ _ _ ⟨CI_pr hG hC1 a3, a1, hA4⟩ ((a3 SCR (Or.inr SCR_hi)).trans hsc1) (by omega) (by omega)

theorem L_dryIn (hL : LInv N σ G) (hN : N ≤ 100000000) (hi : i + 4 < Ln) (hLn : Ln ≤ 100000) (hsc : σ SCR = scr) (hk : k ≤ 603000) (hs : s ≤ 7207000) (HN : NXT N Ln i k s scr K) :
    Ev 214 (1487, [.ref SCR, .ref 0, .ref 368, .ref 377, .ref 378, .int (jI i), v6, v7, v8], [], k, s, MM Ln σ lo db) K := by
  obtain ⟨hC, hR, hA⟩ := hL
  have hG := hA.gd
  obtain ⟨⟨g, oh, ng, nd, nc, h⟩, H, sv, y0, d0, c, len, er⟩ := G
  have hS : Snd (g, oh, ng, nd, nc, h) := hA.1.1
  have hh : h ≤ N := hA.1.2
  have hA4 := hA.mono (show N ≤ N + 4000 by omega)
  obtain ⟨hB, hO, hNG, hAC⟩ := Snd_of hS
  have hBa := Bas_of hB hO
  have hB0 := hB
  obtain ⟨b1, b2, b3, b4, b5, b6, b7, b8, b9⟩ := hB
  have n1 : (jI 1 = jI 0) = False := jI_nz (by decide) (by decide)
  have n2 : (jI 2 = jI 0) = False := jI_nz (by decide) (by decide)
  have n3 : (jI 3 = jI 0) = False := jI_nz (by decide) (by decide)
  have hks : k + 1 ≤ 603072 ∧ s + 6 ≤ 7207017 := by omega
  have hks2 : k + 1 + 0 ≤ 603072 ∧ s + 6 + 0 ≤ 7207017 := by omega
  simp (disch := first | assumption | omega) only [s_214_1487, s_214_1488, s_214_1489, r_214_1489, s_214_1492, s_214_1494, s_214_1495, r_214_1495, s_214_1498, s_214_1500, s_214_1501, r_214_1501, s_214_1504, s_214_1506, s_214_1509, s_214_1510, s_214_1511, s_214_1513, s_214_1516, s_214_1517, s_214_1518, s_214_1519, s_214_1521, s_214_1522, s_214_1523, s_214_1526, s_214_1527, s_214_1528, jI_mul, jI_add, jI_tnc, jI_ixT, true_and, and_true, bZ_0, bZ_1, bZ_b, jI_nz, jI_div, jI_rem, jI_mod, Nat.add_zero, bI_if, not_false_iff, if_true, if_false, eq_self, hsc]
  refine w_dryIn (by omega) hG hC (fun q σ1 hC1 p1 => ?_) (fun n hn hd hno σ1 hC1 p1 => ?_)
  · skip
    have hR1 := RI_pc hR p1
    have hsc1 : σ1 SCR = scr := (p1 SCR (by have := SCR_hi; omega)).trans hsc
    simp (disch := first | assumption | omega) only [s_214_1487, s_214_1488, s_214_1489, r_214_1489, s_214_1492, s_214_1494, s_214_1495, r_214_1495, s_214_1498, s_214_1500, s_214_1501, r_214_1501, s_214_1504, s_214_1506, s_214_1509, s_214_1510, s_214_1511, s_214_1513, s_214_1516, s_214_1517, s_214_1518, s_214_1519, s_214_1521, s_214_1522, s_214_1523, s_214_1526, s_214_1527, s_214_1528, jI_mul, jI_add, jI_tnc, jI_ixT, true_and, and_true, bZ_0, bZ_1, bZ_b, jI_nz, jI_div, jI_rem, jI_mod, Nat.add_zero, bI_if, not_false_iff, if_true, if_false, eq_self, hsc1]
    have e9 : σ1 369 = g := (hR1).1
    have e6 : σ1 368 6 = jI H.length := (hR1).2.1.2.1
    have el : H.length ≤ 8 := (hR1).2.1.1
    have e7 : σ1 368 7 = jI 0 := (hR1).2.2.2.2.1
    rw [MM_MG e9]
    refine m_dryIn hBa (by omega) (fun σ2 q' f => ?_) (fun n σ2 hn hd => absurd hd (q n hn))
    obtain ⟨f1, f2⟩ := FR_dry f
    obtain ⟨a1, a2, a3⟩ := RI_tr (τ := σ2) (v := jI 1) hR1 f1 f2
    dsimp only at a1 a2 a3
    simp (disch := first | assumption | omega) only [s_214_1487, s_214_1488, s_214_1489, r_214_1489, s_214_1492, s_214_1494, s_214_1495, r_214_1495, s_214_1498, s_214_1500, s_214_1501, r_214_1501, s_214_1504, s_214_1506, s_214_1509, s_214_1510, s_214_1511, s_214_1513, s_214_1516, s_214_1517, s_214_1518, s_214_1519, s_214_1521, s_214_1522, s_214_1523, s_214_1526, s_214_1527, s_214_1528, jI_mul, jI_add, jI_tnc, jI_ixT, true_and, and_true, bZ_0, bZ_1, bZ_b, jI_nz, jI_div, jI_rem, jI_mod, Nat.add_zero, bI_if, not_false_iff, if_true, if_false, eq_self, m_thrown, a2, u2_lo, lgS, n1, if_true, if_false]
    exact HN _ _ _ _ _ _ _ _ _ ⟨CI_pr hG hC1 a3, a1, hA4⟩ ((a3 SCR (Or.inr SCR_hi)).trans hsc1) (by omega) (by omega)
  · skip
    have hR1 := RI_pc hR p1
    have hsc1 : σ1 SCR = scr := (p1 SCR (by have := SCR_hi; omega)).trans hsc
    simp (disch := first | assumption | omega) only [s_214_1487, s_214_1488, s_214_1489, r_214_1489, s_214_1492, s_214_1494, s_214_1495, r_214_1495, s_214_1498, s_214_1500, s_214_1501, r_214_1501, s_214_1504, s_214_1506, s_214_1509, s_214_1510, s_214_1511, s_214_1513, s_214_1516, s_214_1517, s_214_1518, s_214_1519, s_214_1521, s_214_1522, s_214_1523, s_214_1526, s_214_1527, s_214_1528, jI_mul, jI_add, jI_tnc, jI_ixT, true_and, and_true, bZ_0, bZ_1, bZ_b, jI_nz, jI_div, jI_rem, jI_mod, Nat.add_zero, bI_if, not_false_iff, if_true, if_false, eq_self, hsc1]
    have e9 : σ1 369 = g := (hR1).1
    have e6 : σ1 368 6 = jI H.length := (hR1).2.1.2.1
    have el : H.length ≤ 8 := (hR1).2.1.1
    have e7 : σ1 368 7 = jI 0 := (hR1).2.2.2.2.1
    rw [MM_MG e9]
    refine m_dryIn hBa (by omega) (fun σ2 q' => absurd hd (q' n hn)) (fun n' σ2 hn' hd' hno' f => ?_)
    obtain rfl : n = n' := by
      rcases Nat.lt_trichotomy n n' with l | l | l
      · exact absurd hd (hno' n l)
      · exact l
      · exact absurd hd' (hno n' l)
    obtain ⟨f1, f2⟩ := FR_dry f
    obtain ⟨a1, a2, a3⟩ := RI_tr (τ := σ2) (v := jI 0) hR1 f1 f2
    dsimp only at a1 a2 a3
    simp (disch := first | assumption | omega) only [s_214_1487, s_214_1488, s_214_1489, r_214_1489, s_214_1492, s_214_1494, s_214_1495, r_214_1495, s_214_1498, s_214_1500, s_214_1501, r_214_1501, s_214_1504, s_214_1506, s_214_1509, s_214_1510, s_214_1511, s_214_1513, s_214_1516, s_214_1517, s_214_1518, s_214_1519, s_214_1521, s_214_1522, s_214_1523, s_214_1526, s_214_1527, s_214_1528, jI_mul, jI_add, jI_tnc, jI_ixT, true_and, and_true, bZ_0, bZ_1, bZ_b, jI_nz, jI_div, jI_rem, jI_mod, Nat.add_zero, bI_if, not_false_iff, if_true, if_false, eq_self, m_thrown, a2, u2_lo, lgS, if_true, if_false]
    exact HN _ _ _ _ _ _ _ _ _ ⟨CI_pr hG hC1 a3, a1, hA4⟩ ((a3 SCR (Or.inr SCR_hi)).trans hsc1) (by omega) (by omega)

theorem L_bestHour (hL : LInv N σ G) (hN : N ≤ 100000000) (hi : i + 4 < Ln) (hLn : Ln ≤ 100000) (hsc : σ SCR = scr) (hk : k ≤ 603000) (hs : s ≤ 7207000) (HN : NXT N Ln i k s scr K) :
    Ev 214 (1531, [.ref SCR, .ref 0, .ref 368, .ref 377, .ref 378, .int (jI i), v6, v7, v8], [], k, s, MM Ln σ lo db) K := by
  obtain ⟨hC, hR, hA⟩ := hL
  have hG := hA.gd
  obtain ⟨⟨g, oh, ng, nd, nc, h⟩, H, sv, y0, d0, c, len, er⟩ := G
  have hS : Snd (g, oh, ng, nd, nc, h) := hA.1.1
  have hh : h ≤ N := hA.1.2
  have hA4 := hA.mono (show N ≤ N + 4000 by omega)
  obtain ⟨hB, hO, hNG, hAC⟩ := Snd_of hS
  have hBa := Bas_of hB hO
  have hB0 := hB
  obtain ⟨b1, b2, b3, b4, b5, b6, b7, b8, b9⟩ := hB
  have n1 : (jI 1 = jI 0) = False := jI_nz (by decide) (by decide)
  have n2 : (jI 2 = jI 0) = False := jI_nz (by decide) (by decide)
  have n3 : (jI 3 = jI 0) = False := jI_nz (by decide) (by decide)
  have hks : k + 1 ≤ 603072 ∧ s + 6 ≤ 7207017 := by omega
  have hks2 : k + 1 + 0 ≤ 603072 ∧ s + 6 + 0 ≤ 7207017 := by omega
  simp (disch := first | assumption | omega) only [s_214_1531, s_214_1532, s_214_1533, s_214_1535, s_214_1536, s_214_1537, s_214_1538, s_214_1539, r_214_1539, s_214_1542, s_214_1544, s_214_1545, s_214_1546, s_214_1548, s_214_1549, s_214_1550, s_214_1551, r_214_1551, s_214_1554, s_214_1556, s_214_1557, r_214_1557, s_214_1560, s_214_1562, s_214_1565, s_214_1566, s_214_1567, s_214_1569, s_214_1572, s_214_1573, s_214_1574, s_214_1575, s_214_1577, s_214_1578, s_214_1579, s_214_1582, s_214_1583, s_214_1584, jI_mul, jI_add, jI_tnc, jI_ixT, true_and, and_true, bZ_0, bZ_1, bZ_b, jI_nz, jI_div, jI_rem, jI_mod, Nat.add_zero, bI_if, not_false_iff, if_true, if_false, eq_self, hsc]
  refine w_bestHour (by omega) hG hC (fun q => ?_) (fun k hk ek hb σ1 hC1 p1 => ?_) (fun k j hk ek hb σ1 hC1 p1 => ?_)
  · skip
    simp (disch := first | assumption | omega) only [s_214_1531, s_214_1532, s_214_1533, s_214_1535, s_214_1536, s_214_1537, s_214_1538, s_214_1539, r_214_1539, s_214_1542, s_214_1544, s_214_1545, s_214_1546, s_214_1548, s_214_1549, s_214_1550, s_214_1551, r_214_1551, s_214_1554, s_214_1556, s_214_1557, r_214_1557, s_214_1560, s_214_1562, s_214_1565, s_214_1566, s_214_1567, s_214_1569, s_214_1572, s_214_1573, s_214_1574, s_214_1575, s_214_1577, s_214_1578, s_214_1579, s_214_1582, s_214_1583, s_214_1584, jI_mul, jI_add, jI_tnc, jI_ixT, true_and, and_true, bZ_0, bZ_1, bZ_b, jI_nz, jI_div, jI_rem, jI_mod, Nat.add_zero, bI_if, not_false_iff, if_true, if_false, eq_self, hsc]
    have e9 : σ 369 = g := (hR).1
    have e6 : σ 368 6 = jI H.length := (hR).2.1.2.1
    have el : H.length ≤ 8 := (hR).2.1.1
    have e7 : σ 368 7 = jI 0 := (hR).2.2.2.2.1
    rw [MM_MG e9]
    refine m_bestHour hBa (by omega) (fun _ => ?_) (fun k σ2 hk ek => absurd (hs_mk ek hk (by omega)) q) (fun k j σ2 hk ek => absurd (hs_mk ek hk (by omega)) q)
    obtain ⟨a1, a2, a3⟩ := RI_code (v := jI 1) hR
    dsimp only at a1 a2 a3
    simp (disch := first | assumption | omega) only [s_214_1531, s_214_1532, s_214_1533, s_214_1535, s_214_1536, s_214_1537, s_214_1538, s_214_1539, r_214_1539, s_214_1542, s_214_1544, s_214_1545, s_214_1546, s_214_1548, s_214_1549, s_214_1550, s_214_1551, r_214_1551, s_214_1554, s_214_1556, s_214_1557, r_214_1557, s_214_1560, s_214_1562, s_214_1565, s_214_1566, s_214_1567, s_214_1569, s_214_1572, s_214_1573, s_214_1574, s_214_1575, s_214_1577, s_214_1578, s_214_1579, s_214_1582, s_214_1583, s_214_1584, jI_mul, jI_add, jI_tnc, jI_ixT, true_and, and_true, bZ_0, bZ_1, bZ_b, jI_nz, jI_div, jI_rem, jI_mod, Nat.add_zero, bI_if, not_false_iff, if_true, if_false, eq_self, m_thrown, a2, n1, if_true, if_false]
    exact HN _ _ _ _ _ _ _ _ _ ⟨CI_pr hG hC a3, a1, hA4⟩ ((a3 SCR (Or.inr SCR_hi)).trans hsc) (by omega) (by omega)
  · skip
    have hR1 := RI_pc hR p1
    have hsc1 : σ1 SCR = scr := (p1 SCR (by have := SCR_hi; omega)).trans hsc
    simp (disch := first | assumption | omega) only [s_214_1531, s_214_1532, s_214_1533, s_214_1535, s_214_1536, s_214_1537, s_214_1538, s_214_1539, r_214_1539, s_214_1542, s_214_1544, s_214_1545, s_214_1546, s_214_1548, s_214_1549, s_214_1550, s_214_1551, r_214_1551, s_214_1554, s_214_1556, s_214_1557, r_214_1557, s_214_1560, s_214_1562, s_214_1565, s_214_1566, s_214_1567, s_214_1569, s_214_1572, s_214_1573, s_214_1574, s_214_1575, s_214_1577, s_214_1578, s_214_1579, s_214_1582, s_214_1583, s_214_1584, jI_mul, jI_add, jI_tnc, jI_ixT, true_and, and_true, bZ_0, bZ_1, bZ_b, jI_nz, jI_div, jI_rem, jI_mod, Nat.add_zero, bI_if, not_false_iff, if_true, if_false, eq_self, hsc1]
    have e9 : σ1 369 = g := (hR1).1
    have e6 : σ1 368 6 = jI H.length := (hR1).2.1.2.1
    have el : H.length ≤ 8 := (hR1).2.1.1
    have e7 : σ1 368 7 = jI 0 := (hR1).2.2.2.2.1
    rw [MM_MG e9]
    refine m_bestHour hBa (by omega) (fun q' => absurd (hs_mk ek hk (by omega)) q') (fun k' σ2 hk' ek' hb' f => ?_) (fun k' j' σ2 hk' ek' _ hb' => by obtain rfl : k = k' := jI_c ek ek' (by omega) (by omega); rw [hb] at hb'; cases hb')
    obtain ⟨f1, f2⟩ := Tf_u2 f
    obtain ⟨a1, a2, a3⟩ := RI_tr (τ := σ2) (v := jI 2) hR1 f1 f2
    dsimp only at a1 a2 a3
    simp (disch := first | assumption | omega) only [s_214_1531, s_214_1532, s_214_1533, s_214_1535, s_214_1536, s_214_1537, s_214_1538, s_214_1539, r_214_1539, s_214_1542, s_214_1544, s_214_1545, s_214_1546, s_214_1548, s_214_1549, s_214_1550, s_214_1551, r_214_1551, s_214_1554, s_214_1556, s_214_1557, r_214_1557, s_214_1560, s_214_1562, s_214_1565, s_214_1566, s_214_1567, s_214_1569, s_214_1572, s_214_1573, s_214_1574, s_214_1575, s_214_1577, s_214_1578, s_214_1579, s_214_1582, s_214_1583, s_214_1584, jI_mul, jI_add, jI_tnc, jI_ixT, true_and, and_true, bZ_0, bZ_1, bZ_b, jI_nz, jI_div, jI_rem, jI_mod, Nat.add_zero, bI_if, not_false_iff, if_true, if_false, eq_self, m_thrown, a2, u2_lo, lgS, n2, if_true, if_false]
    exact HN _ _ _ _ _ _ _ _ _ ⟨CI_pr hG hC1 a3, a1, hA4⟩ ((a3 SCR (Or.inr SCR_hi)).trans hsc1) (by omega) (by omega)
  · skip
    have hR1 := RI_pc hR p1
    have hsc1 : σ1 SCR = scr := (p1 SCR (by have := SCR_hi; omega)).trans hsc
    simp (disch := first | assumption | omega) only [s_214_1531, s_214_1532, s_214_1533, s_214_1535, s_214_1536, s_214_1537, s_214_1538, s_214_1539, r_214_1539, s_214_1542, s_214_1544, s_214_1545, s_214_1546, s_214_1548, s_214_1549, s_214_1550, s_214_1551, r_214_1551, s_214_1554, s_214_1556, s_214_1557, r_214_1557, s_214_1560, s_214_1562, s_214_1565, s_214_1566, s_214_1567, s_214_1569, s_214_1572, s_214_1573, s_214_1574, s_214_1575, s_214_1577, s_214_1578, s_214_1579, s_214_1582, s_214_1583, s_214_1584, jI_mul, jI_add, jI_tnc, jI_ixT, true_and, and_true, bZ_0, bZ_1, bZ_b, jI_nz, jI_div, jI_rem, jI_mod, Nat.add_zero, bI_if, not_false_iff, if_true, if_false, eq_self, hsc1]
    have e9 : σ1 369 = g := (hR1).1
    have e6 : σ1 368 6 = jI H.length := (hR1).2.1.2.1
    have el : H.length ≤ 8 := (hR1).2.1.1
    have e7 : σ1 368 7 = jI 0 := (hR1).2.2.2.2.1
    rw [MM_MG e9]
    refine m_bestHour hBa (by omega) (fun q' => absurd (hs_mk ek hk (by omega)) q') (fun k' σ2 hk' ek' hb' => by obtain rfl : k = k' := jI_c ek ek' (by omega) (by omega); rw [hb] at hb'; cases hb') (fun k' j' σ2 hk' ek' _ hb' f => ?_)
    obtain rfl : k = k' := jI_c ek ek' (by omega) (by omega)
    obtain rfl : j = j' := by rw [hb] at hb'; cases hb'; rfl
    obtain ⟨f1, f2⟩ := Tf_u2 f
    obtain ⟨a1, a2, a3⟩ := RI_tr (τ := σ2) (v := jI 0) hR1 f1 f2
    dsimp only at a1 a2 a3
    simp (disch := first | assumption | omega) only [s_214_1531, s_214_1532, s_214_1533, s_214_1535, s_214_1536, s_214_1537, s_214_1538, s_214_1539, r_214_1539, s_214_1542, s_214_1544, s_214_1545, s_214_1546, s_214_1548, s_214_1549, s_214_1550, s_214_1551, r_214_1551, s_214_1554, s_214_1556, s_214_1557, r_214_1557, s_214_1560, s_214_1562, s_214_1565, s_214_1566, s_214_1567, s_214_1569, s_214_1572, s_214_1573, s_214_1574, s_214_1575, s_214_1577, s_214_1578, s_214_1579, s_214_1582, s_214_1583, s_214_1584, jI_mul, jI_add, jI_tnc, jI_ixT, true_and, and_true, bZ_0, bZ_1, bZ_b, jI_nz, jI_div, jI_rem, jI_mod, Nat.add_zero, bI_if, not_false_iff, if_true, if_false, eq_self, m_thrown, a2, u2_lo, lgS, if_true, if_false]
    exact HN _ _ _ _ _ _ _ _ _ ⟨CI_pr hG hC1 a3, a1, hA4⟩ ((a3 SCR (Or.inr SCR_hi)).trans hsc1) (by omega) (by omega)

end
