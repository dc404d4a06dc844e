/-! THE LAW: the text, the questions about the whole, what is kept -/
set_option maxRecDepth 16384
section
variable {K : Ou → Me → Prop} {Ln : Nat} {σ σ' : Nat → Nat → Int32} {g : Gr} {lo : Nat → Nat → Int64} {db : Nat → Nat → UInt64} {oh : Nat → Nat → Bool} {ng nd nc h i k N : Nat} {G : Ga} {scr : Nat → Int32} {v6 v7 v8 : Value}
section
variable {s s' t : Sy} {H H' : List Sy} {sv : Option Sy} {y0 d0 er : Int32} {c : Nat → Nat} {len : Nat}
theorem RI_txt {cv : Nat} (hR : RI σ (s, H, sv, y0, d0, c, len, er)) (hl : len < 60) (hcv : cv < 65536) : RI (MG (u2 (u2 (u2 σ 368 8 (jI 0)) 374 len (jI cv)) 368 13 (jI (len + 1))) s.1) (s, H, sv, y0, d0, cU c len cv, len + 1, er) ∧ MG (u2 (u2 (u2 σ 368 8 (jI 0)) 374 len (jI cv)) 368 13 (jI (len + 1))) s.1 368 8 = jI 0 ∧ PR σ (MG (u2 (u2 (u2 σ 368 8 (jI 0)) 374 len (jI cv)) 368 13 (jI (len + 1))) s.1) := by
  obtain ⟨τ, hτ⟩ : ∃ τ, τ = MG (u2 (u2 (u2 σ 368 8 (jI 0)) 374 len (jI cv)) 368 13 (jI (len + 1))) s.1 := ⟨_, rfl⟩
  rw [← hτ]
  have e : ∀ a, a ≠ 368 → a ≠ 369 → a ≠ 374 → τ a = σ a := fun a h1 h2 h3 => by rw [hτ, MG_of h2]; funext q; rw [u2_na h1, u2_na h3, u2_na h1]
  have ej : ∀ j, j ≠ 8 → j ≠ 13 → τ 368 j = σ 368 j := fun j h1 h2 => by rw [hτ, MG_o (by decide), u2_nk h2, u2_na (by decide), u2_nk h1]
  have e9 : τ 369 = s.1 := by rw [hτ]; exact MG_gf
  have e13 : τ 368 13 = jI (len + 1) := by rw [hτ, MG_o (by decide), u2_at]
  have e8 : τ 368 8 = jI 0 := by rw [hτ, MG_o (by decide), u2_nk (by decide), u2_na (by decide), u2_at]
  have e74 : ∀ q, τ 374 q = if q = len then jI cv else σ 374 q := fun q => by
    rw [hτ, MG_o (by decide), u2_na (by decide)]
    by_cases z : q = len
    · rw [if_pos z, z, u2_at]
    · rw [if_neg z, u2_nk z, u2_na (by decide)]
  obtain ⟨r1, ⟨h1, h2, h3⟩, r3, r4, r5, r6, r7, ⟨i1, i2, i3⟩, r9⟩ := hR
  refine ⟨⟨e9, ⟨h1, ?_, fun j t hj q hq => ?_⟩, ?_, fun t ht q hq => ?_, ?_, ?_, ?_, ⟨?_, e13, fun q hq => ?_⟩, ?_⟩, e8, fun a ha => e a (by omega) (by omega) (by omega)⟩
  · rw [ej 6 (by decide) (by decide)]; exact h2
  · rw [e 370 (by decide) (by decide) (by decide)]; exact h3 j t hj q hq
  · rw [ej 5 (by decide) (by decide)]; exact r3
  · rw [e 371 (by decide) (by decide) (by decide)]; exact r4 t ht q hq
  · rw [ej 7 (by decide) (by decide)]; exact r5
  · rw [ej 10 (by decide) (by decide)]; exact r6
  · rw [ej 11 (by decide) (by decide)]; exact r7
  · dsimp only; omega
  · dsimp only at hq i3 ⊢
    rw [e74]
    unfold cU
    by_cases z : q = len
    · rw [if_pos z, if_pos z]; exact ⟨rfl, hcv⟩
    · rw [if_neg z, if_neg z]; exact i3 q (by omega)
  · rw [ej 14 (by decide) (by decide)]; exact r9
theorem RI_rd {τ : Nat → Nat → Int32} {ch : Nat} {code y1 d1 err : Int32} (hR : RI σ (s, H, sv, y0, d0, c, len, er)) (f : RdF σ τ (jI ch) code y1 d1 (jI 0) err) (hl : H'.length ≤ 8) (hch : ch = H'.length) (hrow : ∀ j t, H'[j]? = some t → ∀ q, q < 199 → τ 370 (199 * (H'.length - 1 - j) + q) = t.1 q) : RI (MG τ s'.1) (s', H', sv, y1, d1, c, 0, err) ∧ MG τ s'.1 368 8 = code ∧ PR σ (MG τ s'.1) := by
  obtain ⟨r1, ⟨h1, h2, h3⟩, r3, r4, r5, r6, r7, r8, r9⟩ := hR
  obtain ⟨f0, f5, f6, f7, f8, f10, f11, f13, f14⟩ := f
  have o : ∀ j, MG τ s'.1 368 j = τ 368 j := fun j => MG_o (by decide)
  refine ⟨⟨MG_gf, ⟨hl, ?_, fun j t hj q hq => ?_⟩, ?_, fun t ht q hq => ?_, (o 7).trans f7, (o 10).trans f10, (o 11).trans f11, ⟨Nat.zero_le _, (o 13).trans f13, fun q hq => absurd hq (Nat.not_lt_zero q)⟩, (o 14).trans f14⟩, (o 8).trans f8, fun a ha => ?_⟩
  · rw [o, f6, hch]
  · rw [MG_of (by decide)]; exact hrow j t hj q hq
  · rw [o, f5]; exact r3
  · rw [MG_of (by decide), f0 371 (by decide) (by decide) (by decide) (by decide) (by decide) (by decide) (by decide)]; exact r4 t ht q hq
  · rw [MG_of (by omega), f0 a (by omega) (by omega) (by omega) (by omega) (by omega) (by omega) (by omega)]
theorem RI_undo (hR : RI σ (s, t :: H', sv, y0, d0, c, len, er)) (hs : NG s.1) (ht : NG t.1) : RI (cpy (MG (u2 (u2 σ 368 8 (jI 0)) 368 6 (jI H'.length)) s.1) 370 (199 * H'.length) 369 0 199) (t, H', sv, y0, d0, c, len, er) ∧ cpy (MG (u2 (u2 σ 368 8 (jI 0)) 368 6 (jI H'.length)) s.1) 370 (199 * H'.length) 369 0 199 368 8 = jI 0 ∧ PR σ (cpy (MG (u2 (u2 σ 368 8 (jI 0)) 368 6 (jI H'.length)) s.1) 370 (199 * H'.length) 369 0 199) := by
  obtain ⟨τ, hτ⟩ : ∃ τ, τ = cpy (MG (u2 (u2 σ 368 8 (jI 0)) 368 6 (jI H'.length)) s.1) 370 (199 * H'.length) 369 0 199 := ⟨_, rfl⟩
  rw [← hτ]
  have e : ∀ a, a ≠ 368 → a ≠ 369 → τ a = σ a := fun a h1 h2 => by rw [hτ, cpy_o h2, MG_of h2]; funext q; rw [u2_na h1, u2_na h1]
  have ej : ∀ j, j ≠ 8 → j ≠ 6 → τ 368 j = σ 368 j := fun j h1 h2 => by rw [hτ, cpy_o (by decide), MG_o (by decide), u2_nk h2, u2_nk h1]
  have e6 : τ 368 6 = jI H'.length := by rw [hτ, cpy_o (by decide), MG_o (by decide), u2_at]
  have e8 : τ 368 8 = jI 0 := by rw [hτ, cpy_o (by decide), MG_o (by decide), u2_nk (by decide), u2_at]
  obtain ⟨r1, ⟨h1, h2, h3⟩, r3, r4, r5, r6, r7, r8, r9⟩ := hR
  dsimp only at h1 h3
  rw [List.length_cons] at h1 h3
  have e9 : τ 369 = t.1 := by
    funext q
    rw [hτ]
    unfold cpy
    by_cases z : q < 199
    · rw [if_pos ⟨rfl, by omega, by omega⟩, MG_o (by decide), u2_na (by decide), u2_na (by decide)]
      have := h3 0 t rfl q z
      rw [show 199 * (H'.length + 1 - 1 - 0) + q = 199 * H'.length + (q - 0) by omega] at this
      exact this
    · rw [if_neg (by omega), MG_g, hs q (by omega), ht q (by omega)]
  refine ⟨⟨e9, ⟨?_, e6, fun j u hj q hq => ?_⟩, ?_, fun t ht q hq => ?_, ?_, ?_, ?_, INP_cg r8 (ej 13 (by decide) (by decide)) (e 374 (by decide) (by decide)), ?_⟩, e8, fun a ha => e a (by omega) (by omega)⟩
  · dsimp only; omega
  · rw [e 370 (by decide) (by decide)]
    have := h3 (j + 1) u (by rw [List.getElem?_cons_succ]; exact hj) q hq
    rw [show H'.length + 1 - 1 - (j + 1) = H'.length - 1 - j by omega] at this
    exact this
  · rw [ej 5 (by decide) (by decide)]; exact r3
  · rw [e 371 (by decide) (by decide)]; exact r4 t ht q hq
  · rw [ej 7 (by decide) (by decide)]; exact r5
  · rw [ej 10 (by decide) (by decide)]; exact r6
  · rw [ej 11 (by decide) (by decide)]; exact r7
  · rw [ej 14 (by decide) (by decide)]; exact r9
theorem RI_save (hR : RI σ (s, H, sv, y0, d0, c, len, er)) : RI (cpy (MG (u2 (u2 σ 368 8 (jI 0)) 368 5 (jI 1)) s.1) 369 0 371 0 199) (s, H, some s, y0, d0, c, len, er) ∧ cpy (MG (u2 (u2 σ 368 8 (jI 0)) 368 5 (jI 1)) s.1) 369 0 371 0 199 368 8 = jI 0 ∧ PR σ (cpy (MG (u2 (u2 σ 368 8 (jI 0)) 368 5 (jI 1)) s.1) 369 0 371 0 199) := by
  obtain ⟨τ, hτ⟩ : ∃ τ, τ = cpy (MG (u2 (u2 σ 368 8 (jI 0)) 368 5 (jI 1)) s.1) 369 0 371 0 199 := ⟨_, rfl⟩
  rw [← hτ]
  have e : ∀ a, a ≠ 368 → a ≠ 369 → a ≠ 371 → τ a = σ a := fun a h1 h2 h3 => by rw [hτ, cpy_o h3, MG_of h2]; funext q; rw [u2_na h1, u2_na h1]
  have ej : ∀ j, j ≠ 8 → j ≠ 5 → τ 368 j = σ 368 j := fun j h1 h2 => by rw [hτ, cpy_o (by decide), MG_o (by decide), u2_nk h2, u2_nk h1]
  have e5 : τ 368 5 = jI 1 := by rw [hτ, cpy_o (by decide), MG_o (by decide), u2_at]
  have e8 : τ 368 8 = jI 0 := by rw [hτ, cpy_o (by decide), MG_o (by decide), u2_nk (by decide), u2_at]
  have e9 : τ 369 = s.1 := by rw [hτ, cpy_o (by decide)]; exact MG_gf
  obtain ⟨r1, ⟨h1, h2, h3⟩, r3, r4, r5, r6, r7, r8, r9⟩ := hR
  refine ⟨⟨e9, ⟨h1, ?_, fun j t hj q hq => ?_⟩, e5, fun t ht q hq => ?_, ?_, ?_, ?_, INP_cg r8 (ej 13 (by decide) (by decide)) (e 374 (by decide) (by decide) (by decide)), ?_⟩, e8, fun a ha => e a (by omega) (by omega) (by omega)⟩
  · rw [ej 6 (by decide) (by decide)]; exact h2
  · rw [e 370 (by decide) (by decide) (by decide)]; exact h3 j t hj q hq
  · cases ht
    rw [hτ]
    unfold cpy
    rw [if_pos ⟨rfl, by omega, by omega⟩, MG_g, show 0 + (q - 0) = q by omega]
  · rw [ej 7 (by decide) (by decide)]; exact r5
  · rw [ej 10 (by decide) (by decide)]; exact r6
  · rw [ej 11 (by decide) (by decide)]; exact r7
  · rw [ej 14 (by decide) (by decide)]; exact r9
theorem RI_restore (hR : RI σ (s, H, some t, y0, d0, c, len, er)) (hs : NG s.1) (ht : NG t.1) : RI (u2 (cpy (MG (u2 σ 368 8 (jI 0)) s.1) 371 0 369 0 199) 368 6 (jI 0)) (t, [], some t, y0, d0, c, len, er) ∧ u2 (cpy (MG (u2 σ 368 8 (jI 0)) s.1) 371 0 369 0 199) 368 6 (jI 0) 368 8 = jI 0 ∧ PR σ (u2 (cpy (MG (u2 σ 368 8 (jI 0)) s.1) 371 0 369 0 199) 368 6 (jI 0)) := by
  obtain ⟨τ, hτ⟩ : ∃ τ, τ = u2 (cpy (MG (u2 σ 368 8 (jI 0)) s.1) 371 0 369 0 199) 368 6 (jI 0) := ⟨_, rfl⟩
  rw [← hτ]
  have e : ∀ a, a ≠ 368 → a ≠ 369 → τ a = σ a := fun a h1 h2 => by funext q; rw [hτ, u2_na h1, cpy_o h2, MG_o h2, u2_na h1]
  have ej : ∀ j, j ≠ 8 → j ≠ 6 → τ 368 j = σ 368 j := fun j h1 h2 => by rw [hτ, u2_nk h2, cpy_o (by decide), MG_o (by decide), u2_nk h1]
  have e6 : τ 368 6 = jI 0 := by rw [hτ, u2_at]
  have e8 : τ 368 8 = jI 0 := by rw [hτ, u2_nk (by decide), cpy_o (by decide), MG_o (by decide), u2_at]
  obtain ⟨r1, ⟨h1, h2, h3⟩, r3, r4, r5, r6, r7, r8, r9⟩ := hR
  have e9 : τ 369 = t.1 := by
    funext q
    rw [hτ, u2_na (by decide)]
    unfold cpy
    by_cases z : q < 199
    · rw [if_pos ⟨rfl, by omega, by omega⟩, MG_o (by decide), u2_na (by decide), show 0 + (q - 0) = q by omega]
      exact r4 t rfl q z
    · rw [if_neg (by omega), MG_g, hs q (by omega), ht q (by omega)]
  refine ⟨⟨e9, ⟨Nat.zero_le _, e6, fun j u hj q hq => by cases hj⟩, ?_, fun t ht q hq => ?_, ?_, ?_, ?_, INP_cg r8 (ej 13 (by decide) (by decide)) (e 374 (by decide) (by decide)), ?_⟩, e8, fun a ha => e a (by omega) (by omega)⟩
  · rw [ej 5 (by decide) (by decide)]; exact r3
  · rw [e 371 (by decide) (by decide)]; exact r4 t ht q hq
  · rw [ej 7 (by decide) (by decide)]; exact r5
  · rw [ej 10 (by decide) (by decide)]; exact r6
  · rw [ej 11 (by decide) (by decide)]; exact r7
  · rw [ej 14 (by decide) (by decide)]; exact r9
end
theorem dcS {x : UInt64} (h : x &&& 0x7fffffffffffffff ≤ 0x7ff0000000000000) : Op.cmpValue (FP.dcmp x x) .l = jI 0 := by
  rw [show FP.dcmp x x = some .eq from Jvm.FP.Core.dcmp_refl (fl_n64.mp h)]
  rfl
theorem L_append {s : Nat} (hL : LInv N σ G) (hN : N ≤ 100000000) (hi : i + 4 < Ln) (hLn : Ln ≤ 100000) (hsc : σ SCR = scr) (hk : k ≤ 603000) (hs : s ≤ 7207000) (HN : NXT N Ln i k s scr K) :
    Ev 214 (1587, [.ref SCR, .ref 0, .ref 368, .ref 377, .ref 378, .int (jI i), v6, v7, v8], [], k, s, MM Ln σ lo db) K := by
  obtain ⟨hC, hR, hA⟩ := hL
  have hG := hA.gd
  obtain ⟨⟨g, oh, ng, nd, nc, h⟩, H, sv, y0, d0, c, len, er⟩ := G
  have hS : Snd (g, oh, ng, nd, nc, h) := hA.1.1
  have hh : h ≤ N := hA.1.2
  have hA4 := hA.mono (show N ≤ N + 4000 by omega)
  obtain ⟨hB, hO, hNG, hAC⟩ := Snd_of hS
  have hBa := Bas_of hB hO
  have hB0 := hB
  obtain ⟨b1, b2, b3, b4, b5, b6, b7, b8, b9⟩ := hB
  have n1 : (jI 1 = jI 0) = False := jI_nz (by decide) (by decide)
  have n2 : (jI 2 = jI 0) = False := jI_nz (by decide) (by decide)
  have n3 : (jI 3 = jI 0) = False := jI_nz (by decide) (by decide)
  have hks : k + 1 ≤ 603072 ∧ s + 6 ≤ 7207017 := by omega
  have hks2 : k + 1 + 0 ≤ 603072 ∧ s + 6 + 0 ≤ 7207017 := by omega
  obtain ⟨cv, hcv, ec⟩ : ∃ cv, cv < 65536 ∧ ((scr (i + 1)).toUInt32 % 65536).toInt32 = jI cv := ⟨_, Nat.mod_lt _ (by decide), i2c_jI _⟩
  simp (disch := first | assumption | omega) only [s_214_1587, s_214_1588, s_214_1589, s_214_1591, s_214_1592, s_214_1593, s_214_1594, s_214_1595, s_214_1596, r_214_1596, s_214_1599, s_214_1601, s_214_1602, s_214_1603, s_214_1605, s_214_1606, s_214_1607, s_214_1608, s_214_1609, r_214_1609, s_214_1612, s_214_1614, s_214_1615, r_214_1615, s_214_1618, s_214_1620, s_214_1623, s_214_1624, s_214_1625, s_214_1627, s_214_1630, s_214_1631, s_214_1632, s_214_1633, s_214_1635, s_214_1636, s_214_1637, s_214_1640, s_214_1641, s_214_1642, jI_mul, jI_add, jI_tnc, jI_ixT, true_and, and_true, bZ_0, bZ_1, bZ_b, jI_nz, jI_div, jI_rem, jI_mod, Nat.add_zero, bI_if, not_false_iff, if_true, if_false, eq_self, hsc, ec]
  refine w_append hcv hG hC (fun q => ?_) (fun q σ1 hC1 p1 => ?_)
  · skip
    simp (disch := first | assumption | omega) only [s_214_1587, s_214_1588, s_214_1589, s_214_1591, s_214_1592, s_214_1593, s_214_1594, s_214_1595, s_214_1596, r_214_1596, s_214_1599, s_214_1601, s_214_1602, s_214_1603, s_214_1605, s_214_1606, s_214_1607, s_214_1608, s_214_1609, r_214_1609, s_214_1612, s_214_1614, s_214_1615, r_214_1615, s_214_1618, s_214_1620, s_214_1623, s_214_1624, s_214_1625, s_214_1627, s_214_1630, s_214_1631, s_214_1632, s_214_1633, s_214_1635, s_214_1636, s_214_1637, s_214_1640, s_214_1641, s_214_1642, jI_mul, jI_add, jI_tnc, jI_ixT, true_and, and_true, bZ_0, bZ_1, bZ_b, jI_nz, jI_div, jI_rem, jI_mod, Nat.add_zero, bI_if, not_false_iff, if_true, if_false, eq_self, hsc, ec]
    have e9 : σ 369 = g := (hR).1
    have e6 : σ 368 6 = jI H.length := (hR).2.1.2.1
    have el : H.length ≤ 8 := (hR).2.1.1
    have e7 : σ 368 7 = jI 0 := (hR).2.2.2.2.1
    rw [MM_MG e9]
    refine m_append (hR.2.2.2.2.2.2.2.1).2.1 (hR.2.2.2.2.2.2.2.1).1 (fun _ => ?_) (fun q' => absurd q (by dsimp only at q'; omega))
    obtain ⟨a1, a2, a3⟩ := RI_code (v := jI 1) hR
    dsimp only at a1 a2 a3
    simp (disch := first | assumption | omega) only [s_214_1587, s_214_1588, s_214_1589, s_214_1591, s_214_1592, s_214_1593, s_214_1594, s_214_1595, s_214_1596, r_214_1596, s_214_1599, s_214_1601, s_214_1602, s_214_1603, s_214_1605, s_214_1606, s_214_1607, s_214_1608, s_214_1609, r_214_1609, s_214_1612, s_214_1614, s_214_1615, r_214_1615, s_214_1618, s_214_1620, s_214_1623, s_214_1624, s_214_1625, s_214_1627, s_214_1630, s_214_1631, s_214_1632, s_214_1633, s_214_1635, s_214_1636, s_214_1637, s_214_1640, s_214_1641, s_214_1642, jI_mul, jI_add, jI_tnc, jI_ixT, true_and, and_true, bZ_0, bZ_1, bZ_b, jI_nz, jI_div, jI_rem, jI_mod, Nat.add_zero, bI_if, not_false_iff, if_true, if_false, eq_self, m_thrown, a2, n1, if_true, if_false]
    exact HN _ _ _ _ _ _ _ _ _ ⟨CI_pr hG hC a3, a1, hA4⟩ ((a3 SCR (Or.inr SCR_hi)).trans hsc) (by omega) (by omega)
  · skip
    have hR1 := RI_pc hR p1
    have hsc1 : σ1 SCR = scr := (p1 SCR (by have := SCR_hi; omega)).trans hsc
    have hA1 : AllG (N + 4000) ((g, oh, ng, nd, nc, h), H, sv, y0, d0, cU c len cv, len + 1, er) := hA4
    simp (disch := first | assumption | omega) only [s_214_1587, s_214_1588, s_214_1589, s_214_1591, s_214_1592, s_214_1593, s_214_1594, s_214_1595, s_214_1596, r_214_1596, s_214_1599, s_214_1601, s_214_1602, s_214_1603, s_214_1605, s_214_1606, s_214_1607, s_214_1608, s_214_1609, r_214_1609, s_214_1612, s_214_1614, s_214_1615, r_214_1615, s_214_1618, s_214_1620, s_214_1623, s_214_1624, s_214_1625, s_214_1627, s_214_1630, s_214_1631, s_214_1632, s_214_1633, s_214_1635, s_214_1636, s_214_1637, s_214_1640, s_214_1641, s_214_1642, jI_mul, jI_add, jI_tnc, jI_ixT, true_and, and_true, bZ_0, bZ_1, bZ_b, jI_nz, jI_div, jI_rem, jI_mod, Nat.add_zero, bI_if, not_false_iff, if_true, if_false, eq_self, hsc1, ec]
    have e9 : σ1 369 = g := (hR1).1
    have e6 : σ1 368 6 = jI H.length := (hR1).2.1.2.1
    have el : H.length ≤ 8 := (hR1).2.1.1
    have e7 : σ1 368 7 = jI 0 := (hR1).2.2.2.2.1
    rw [MM_MG e9]
    refine m_append (hR1.2.2.2.2.2.2.2.1).2.1 (hR1.2.2.2.2.2.2.2.1).1 (fun q' => absurd q (by dsimp only at q'; omega)) (fun _ => ?_)
    obtain ⟨a1, a2, a3⟩ := RI_txt hR1 q hcv
    dsimp only at a1 a2 a3
    simp (disch := first | assumption | omega) only [s_214_1587, s_214_1588, s_214_1589, s_214_1591, s_214_1592, s_214_1593, s_214_1594, s_214_1595, s_214_1596, r_214_1596, s_214_1599, s_214_1601, s_214_1602, s_214_1603, s_214_1605, s_214_1606, s_214_1607, s_214_1608, s_214_1609, r_214_1609, s_214_1612, s_214_1614, s_214_1615, r_214_1615, s_214_1618, s_214_1620, s_214_1623, s_214_1624, s_214_1625, s_214_1627, s_214_1630, s_214_1631, s_214_1632, s_214_1633, s_214_1635, s_214_1636, s_214_1637, s_214_1640, s_214_1641, s_214_1642, jI_mul, jI_add, jI_tnc, jI_ixT, true_and, and_true, bZ_0, bZ_1, bZ_b, jI_nz, jI_div, jI_rem, jI_mod, Nat.add_zero, bI_if, not_false_iff, if_true, if_false, eq_self, m_thrown, a2, u2_lo, lgS, if_true, if_false]
    exact HN _ _ _ _ _ _ _ _ _ ⟨CI_pr (AllG.gd hA1) hC1 a3, a1, hA1⟩ ((a3 SCR (Or.inr SCR_hi)).trans hsc1) (by omega) (by omega)

theorem L_read {s : Nat} (hL : LInv N σ G) (hN : N ≤ 100000000) (hi : i + 4 < Ln) (hLn : Ln ≤ 100000) (hsc : σ SCR = scr) (hk : k ≤ 603000) (hs : s ≤ 7207000) (HN : NXT N Ln i k s scr K) :
    Ev 214 (1645, [.ref SCR, .ref 0, .ref 368, .ref 377, .ref 378, .int (jI i), v6, v7, v8], [], k, s, MM Ln σ lo db) K := by
  obtain ⟨hC, hR, hA⟩ := hL
  have hG := hA.gd
  obtain ⟨⟨g, oh, ng, nd, nc, h⟩, H, sv, y0, d0, c, len, er⟩ := G
  have hS : Snd (g, oh, ng, nd, nc, h) := hA.1.1
  have hh : h ≤ N := hA.1.2
  have hA4 := hA.mono (show N ≤ N + 4000 by omega)
  obtain ⟨hB, hO, hNG, hAC⟩ := Snd_of hS
  have hBa := Bas_of hB hO
  have hB0 := hB
  obtain ⟨b1, b2, b3, b4, b5, b6, b7, b8, b9⟩ := hB
  have n1 : (jI 1 = jI 0) = False := jI_nz (by decide) (by decide)
  have n2 : (jI 2 = jI 0) = False := jI_nz (by decide) (by decide)
  have n3 : (jI 3 = jI 0) = False := jI_nz (by decide) (by decide)
  have hks : k + 1 ≤ 603072 ∧ s + 6 ≤ 7207017 := by omega
  have hks2 : k + 1 + 0 ≤ 603072 ∧ s + 6 + 0 ≤ 7207017 := by omega
  simp (disch := first | assumption | omega) only [s_214_1645, s_214_1646, s_214_1647, r_214_1647, s_214_1650, s_214_1652, s_214_1653, r_214_1653, s_214_1656, s_214_1658, s_214_1659, r_214_1659, s_214_1662, s_214_1664, s_214_1667, s_214_1668, s_214_1669, s_214_1671, s_214_1674, s_214_1675, s_214_1676, s_214_1677, s_214_1679, s_214_1680, s_214_1681, s_214_1684, s_214_1685, s_214_1686, jI_mul, jI_add, jI_tnc, jI_ixT, true_and, and_true, bZ_0, bZ_1, bZ_b, jI_nz, jI_div, jI_rem, jI_mod, Nat.add_zero, bI_if, not_false_iff, if_true, if_false, eq_self, hsc]
  refine w_read (by omega) hG hC (fun e he σ1 hC1 p1 => ?_) (fun l hl hw σ1 hC1 p1 => ?_) (fun l x d hl hr σ1 hC1 p1 => ?_) (fun l s0 hl hl20 hd hsc0 σ1 hC1 p1 => ?_)
  · skip
    have hR1 := RI_pc hR p1
    have hsc1 : σ1 SCR = scr := (p1 SCR (by have := SCR_hi; omega)).trans hsc
    have hA1 : AllG (N + 4000) ((g, oh, ng, nd, nc, h), H, sv, y0, d0, c, 0, jI e) := hA4
    simp (disch := first | assumption | omega) only [s_214_1645, s_214_1646, s_214_1647, r_214_1647, s_214_1650, s_214_1652, s_214_1653, r_214_1653, s_214_1656, s_214_1658, s_214_1659, r_214_1659, s_214_1662, s_214_1664, s_214_1667, s_214_1668, s_214_1669, s_214_1671, s_214_1674, s_214_1675, s_214_1676, s_214_1677, s_214_1679, s_214_1680, s_214_1681, s_214_1684, s_214_1685, s_214_1686, jI_mul, jI_add, jI_tnc, jI_ixT, true_and, and_true, bZ_0, bZ_1, bZ_b, jI_nz, jI_div, jI_rem, jI_mod, Nat.add_zero, bI_if, not_false_iff, if_true, if_false, eq_self, hsc1]
    have e9 : σ1 369 = g := (hR1).1
    have e6 : σ1 368 6 = jI H.length := (hR1).2.1.2.1
    have el : H.length ≤ 8 := (hR1).2.1.1
    have e7 : σ1 368 7 = jI 0 := (hR1).2.2.2.2.1
    have e10 : σ1 368 10 = y0 := hR1.2.2.2.2.2.1
    have e11 : σ1 368 11 = d0 := hR1.2.2.2.2.2.2.1
    rw [MM_MG e9]
    refine m_read (c := c) (len := len) hBa (by omega) (hR1.2.2.2.2.2.2.2.1) e7 e6 el (fun e' σ2 he' f f0 => ?_) (fun l v σ2 hl => by rw [he] at hl; cases hl) (fun l v x d σ2 hl => by rw [he] at hl; cases hl) (fun l s0 σ2 hl => by rw [he] at hl; cases hl)
    obtain rfl : e = e' := by rw [he] at he'; cases he'; rfl
    rw [e10, e11] at f
    obtain ⟨a1, a2, a3⟩ := RI_rd (s' := (g, oh, ng, nd, nc, h)) (H' := H) hR1 f hR1.2.1.1 rfl (fun j t hj q hq => by rw [f0]; exact hR1.2.1.2.2 j t hj q hq)
    dsimp only at a1 a2 a3
    simp (disch := first | assumption | omega) only [s_214_1645, s_214_1646, s_214_1647, r_214_1647, s_214_1650, s_214_1652, s_214_1653, r_214_1653, s_214_1656, s_214_1658, s_214_1659, r_214_1659, s_214_1662, s_214_1664, s_214_1667, s_214_1668, s_214_1669, s_214_1671, s_214_1674, s_214_1675, s_214_1676, s_214_1677, s_214_1679, s_214_1680, s_214_1681, s_214_1684, s_214_1685, s_214_1686, jI_mul, jI_add, jI_tnc, jI_ixT, true_and, and_true, bZ_0, bZ_1, bZ_b, jI_nz, jI_div, jI_rem, jI_mod, Nat.add_zero, bI_if, not_false_iff, if_true, if_false, eq_self, m_thrown, a2, n1, if_true, if_false]
    exact HN _ _ _ _ _ _ _ _ _ ⟨CI_pr (AllG.gd hA1) hC1 a3, a1, hA1⟩ ((a3 SCR (Or.inr SCR_hi)).trans hsc1) (by omega) (by omega)
  · skip
    have hR1 := RI_pc hR p1
    have hsc1 : σ1 SCR = scr := (p1 SCR (by have := SCR_hi; omega)).trans hsc
    have hA1 : AllG (N + 4000) ((g, oh, ng, nd, nc, h), H, sv, y0, d0, c, 0, jm1) := hA4
    simp (disch := first | assumption | omega) only [s_214_1645, s_214_1646, s_214_1647, r_214_1647, s_214_1650, s_214_1652, s_214_1653, r_214_1653, s_214_1656, s_214_1658, s_214_1659, r_214_1659, s_214_1662, s_214_1664, s_214_1667, s_214_1668, s_214_1669, s_214_1671, s_214_1674, s_214_1675, s_214_1676, s_214_1677, s_214_1679, s_214_1680, s_214_1681, s_214_1684, s_214_1685, s_214_1686, jI_mul, jI_add, jI_tnc, jI_ixT, true_and, and_true, bZ_0, bZ_1, bZ_b, jI_nz, jI_div, jI_rem, jI_mod, Nat.add_zero, bI_if, not_false_iff, if_true, if_false, eq_self, hsc1]
    have e9 : σ1 369 = g := (hR1).1
    have e6 : σ1 368 6 = jI H.length := (hR1).2.1.2.1
    have el : H.length ≤ 8 := (hR1).2.1.1
    have e7 : σ1 368 7 = jI 0 := (hR1).2.2.2.2.1
    have e10 : σ1 368 10 = y0 := hR1.2.2.2.2.2.1
    have e11 : σ1 368 11 = d0 := hR1.2.2.2.2.2.2.1
    rw [MM_MG e9]
    refine m_read (c := c) (len := len) hBa (by omega) (hR1.2.2.2.2.2.2.2.1) e7 e6 el (fun e σ2 he => by rw [hl] at he; cases he) (fun l' v σ2 hl' hw' f f0 => ?_) (fun l' v x d σ2 hl' hr' => by rw [hl] at hl'; cases hl'; rw [hw] at hr'; cases hr') (fun l' s0 σ2 hl' _ hd' => by rw [hl] at hl'; cases hl'; rw [hw] at hd'; cases hd')
    rw [e10, e11] at f
    obtain ⟨a1, a2, a3⟩ := RI_rd (s' := (g, oh, ng, nd, nc, h)) (H' := H) hR1 f hR1.2.1.1 rfl (fun j t hj q hq => by rw [f0]; exact hR1.2.1.2.2 j t hj q hq)
    dsimp only at a1 a2 a3
    simp (disch := first | assumption | omega) only [s_214_1645, s_214_1646, s_214_1647, r_214_1647, s_214_1650, s_214_1652, s_214_1653, r_214_1653, s_214_1656, s_214_1658, s_214_1659, r_214_1659, s_214_1662, s_214_1664, s_214_1667, s_214_1668, s_214_1669, s_214_1671, s_214_1674, s_214_1675, s_214_1676, s_214_1677, s_214_1679, s_214_1680, s_214_1681, s_214_1684, s_214_1685, s_214_1686, jI_mul, jI_add, jI_tnc, jI_ixT, true_and, and_true, bZ_0, bZ_1, bZ_b, jI_nz, jI_div, jI_rem, jI_mod, Nat.add_zero, bI_if, not_false_iff, if_true, if_false, eq_self, m_thrown, a2, n1, if_true, if_false]
    exact HN _ _ _ _ _ _ _ _ _ ⟨CI_pr (AllG.gd hA1) hC1 a3, a1, hA1⟩ ((a3 SCR (Or.inr SCR_hi)).trans hsc1) (by omega) (by omega)
  · skip
    have hR1 := RI_pc hR p1
    have hsc1 : σ1 SCR = scr := (p1 SCR (by have := SCR_hi; omega)).trans hsc
    have hA1 : AllG (N + 4000) ((g, oh, ng, nd, nc, h), H, sv, jI x, d, c, 0, jm1) := hA4
    simp (disch := first | assumption | omega) only [s_214_1645, s_214_1646, s_214_1647, r_214_1647, s_214_1650, s_214_1652, s_214_1653, r_214_1653, s_214_1656, s_214_1658, s_214_1659, r_214_1659, s_214_1662, s_214_1664, s_214_1667, s_214_1668, s_214_1669, s_214_1671, s_214_1674, s_214_1675, s_214_1676, s_214_1677, s_214_1679, s_214_1680, s_214_1681, s_214_1684, s_214_1685, s_214_1686, jI_mul, jI_add, jI_tnc, jI_ixT, true_and, and_true, bZ_0, bZ_1, bZ_b, jI_nz, jI_div, jI_rem, jI_mod, Nat.add_zero, bI_if, not_false_iff, if_true, if_false, eq_self, hsc1]
    have e9 : σ1 369 = g := (hR1).1
    have e6 : σ1 368 6 = jI H.length := (hR1).2.1.2.1
    have el : H.length ≤ 8 := (hR1).2.1.1
    have e7 : σ1 368 7 = jI 0 := (hR1).2.2.2.2.1
    have e10 : σ1 368 10 = y0 := hR1.2.2.2.2.2.1
    have e11 : σ1 368 11 = d0 := hR1.2.2.2.2.2.2.1
    rw [MM_MG e9]
    refine m_read (c := c) (len := len) hBa (by omega) (hR1.2.2.2.2.2.2.2.1) e7 e6 el (fun e σ2 he => by rw [hl] at he; cases he) (fun l' v σ2 hl' hw' => by rw [hl] at hl'; cases hl'; rw [hr] at hw'; cases hw') (fun l' v x' d' σ2 hl' hr' f f0 => ?_) (fun l' s0 σ2 hl' _ hd' => by rw [hl] at hl'; cases hl'; rw [hr] at hd'; cases hd')
    rw [hl] at hl'; cases hl'
    rw [hr] at hr'; cases hr'
    obtain ⟨a1, a2, a3⟩ := RI_rd (s' := (g, oh, ng, nd, nc, h)) (H' := H) hR1 f hR1.2.1.1 rfl (fun j t hj q hq => by rw [f0]; exact hR1.2.1.2.2 j t hj q hq)
    dsimp only at a1 a2 a3
    simp (disch := first | assumption | omega) only [s_214_1645, s_214_1646, s_214_1647, r_214_1647, s_214_1650, s_214_1652, s_214_1653, r_214_1653, s_214_1656, s_214_1658, s_214_1659, r_214_1659, s_214_1662, s_214_1664, s_214_1667, s_214_1668, s_214_1669, s_214_1671, s_214_1674, s_214_1675, s_214_1676, s_214_1677, s_214_1679, s_214_1680, s_214_1681, s_214_1684, s_214_1685, s_214_1686, jI_mul, jI_add, jI_tnc, jI_ixT, true_and, and_true, bZ_0, bZ_1, bZ_b, jI_nz, jI_div, jI_rem, jI_mod, Nat.add_zero, bI_if, not_false_iff, if_true, if_false, eq_self, m_thrown, a2, n2, if_true, if_false]
    exact HN _ _ _ _ _ _ _ _ _ ⟨CI_pr (AllG.gd hA1) hC1 a3, a1, hA1⟩ ((a3 SCR (Or.inr SCR_hi)).trans hsc1) (by omega) (by omega)
  · skip
    have hR1 := RI_pc hR p1
    have hsc1 : σ1 SCR = scr := (p1 SCR (by have := SCR_hi; omega)).trans hsc
    have hrun := snd_run l (s := (g, oh, nc, h)) hS (by dsimp only; omega) hd
    have hA1 : AllG (N + 4000) ((s0.1, s0.2.1, ng, nd, s0.2.2.1, s0.2.2.2), ((g, oh, ng, nd, nc, h) :: H).take 8, sv, y0, d0, c, 0, jm1) := hA.keep (by omega) ⟨hrun.1, by have := hrun.2; dsimp only at this ⊢; omega⟩
    simp (disch := first | assumption | omega) only [s_214_1645, s_214_1646, s_214_1647, r_214_1647, s_214_1650, s_214_1652, s_214_1653, r_214_1653, s_214_1656, s_214_1658, s_214_1659, r_214_1659, s_214_1662, s_214_1664, s_214_1667, s_214_1668, s_214_1669, s_214_1671, s_214_1674, s_214_1675, s_214_1676, s_214_1677, s_214_1679, s_214_1680, s_214_1681, s_214_1684, s_214_1685, s_214_1686, jI_mul, jI_add, jI_tnc, jI_ixT, true_and, and_true, bZ_0, bZ_1, bZ_b, jI_nz, jI_div, jI_rem, jI_mod, Nat.add_zero, bI_if, not_false_iff, if_true, if_false, eq_self, hsc1]
    have e9 : σ1 369 = g := (hR1).1
    have e6 : σ1 368 6 = jI H.length := (hR1).2.1.2.1
    have el : H.length ≤ 8 := (hR1).2.1.1
    have e7 : σ1 368 7 = jI 0 := (hR1).2.2.2.2.1
    have e10 : σ1 368 10 = y0 := hR1.2.2.2.2.2.1
    have e11 : σ1 368 11 = d0 := hR1.2.2.2.2.2.2.1
    rw [MM_MG e9]
    refine m_read (c := c) (len := len) hBa (by omega) (hR1.2.2.2.2.2.2.2.1) e7 e6 el (fun e σ2 he => by rw [hl] at he; cases he) (fun l' v σ2 hl' hw' => by rw [hl] at hl'; cases hl'; rw [hd] at hw'; cases hw') (fun l' v x d σ2 hl' hr' => by rw [hl] at hl'; cases hl'; rw [hd] at hr'; cases hr') (fun l' s1 σ2 hl' _ hd' f f0 => ?_)
    rw [hl] at hl'; cases hl'
    rw [hd] at hd'; cases hd'
    rw [e10, e11] at f
    obtain ⟨a1, a2, a3⟩ := RI_rd (s' := (s0.1, s0.2.1, ng, nd, s0.2.2.1, s0.2.2.2)) (H' := ((g, oh, ng, nd, nc, h) :: H).take 8) hR1 f (by rw [List.length_take]; omega) (by rw [List.length_take, List.length_cons]; omega) (fun j t hj q hq => by rw [f0]; exact His_keep (s := (g, oh, ng, nd, nc, h)) hR1.2.1.1 hR1.2.1.2.2 j t hj q hq)
    dsimp only at a1 a2 a3
    simp (disch := first | assumption | omega) only [s_214_1645, s_214_1646, s_214_1647, r_214_1647, s_214_1650, s_214_1652, s_214_1653, r_214_1653, s_214_1656, s_214_1658, s_214_1659, r_214_1659, s_214_1662, s_214_1664, s_214_1667, s_214_1668, s_214_1669, s_214_1671, s_214_1674, s_214_1675, s_214_1676, s_214_1677, s_214_1679, s_214_1680, s_214_1681, s_214_1684, s_214_1685, s_214_1686, jI_mul, jI_add, jI_tnc, jI_ixT, true_and, and_true, bZ_0, bZ_1, bZ_b, jI_nz, jI_div, jI_rem, jI_mod, Nat.add_zero, bI_if, not_false_iff, if_true, if_false, eq_self, m_thrown, a2, u2_lo, lgS, if_true, if_false]
    exact HN _ _ _ _ _ _ _ _ _ ⟨CI_pr (AllG.gd hA1) hC1 a3, a1, hA1⟩ ((a3 SCR (Or.inr SCR_hi)).trans hsc1) (by omega) (by omega)

theorem L_error {s : Nat} (hL : LInv N σ G) (hN : N ≤ 100000000) (hi : i + 4 < Ln) (hLn : Ln ≤ 100000) (hsc : σ SCR = scr) (hk : k ≤ 603000) (hs : s ≤ 7207000) (HN : NXT N Ln i k s scr K) :
    Ev 214 (1689, [.ref SCR, .ref 0, .ref 368, .ref 377, .ref 378, .int (jI i), v6, v7, v8], [], k, s, MM Ln σ lo db) K := by
  obtain ⟨hC, hR, hA⟩ := hL
  have hG := hA.gd
  obtain ⟨⟨g, oh, ng, nd, nc, h⟩, H, sv, y0, d0, c, len, er⟩ := G
  have hS : Snd (g, oh, ng, nd, nc, h) := hA.1.1
  have hh : h ≤ N := hA.1.2
  have hA4 := hA.mono (show N ≤ N + 4000 by omega)
  obtain ⟨hB, hO, hNG, hAC⟩ := Snd_of hS
  have hBa := Bas_of hB hO
  have hB0 := hB
  obtain ⟨b1, b2, b3, b4, b5, b6, b7, b8, b9⟩ := hB
  have n1 : (jI 1 = jI 0) = False := jI_nz (by decide) (by decide)
  have n2 : (jI 2 = jI 0) = False := jI_nz (by decide) (by decide)
  have n3 : (jI 3 = jI 0) = False := jI_nz (by decide) (by decide)
  have hks : k + 1 ≤ 603072 ∧ s + 6 ≤ 7207017 := by omega
  have hks2 : k + 1 + 0 ≤ 603072 ∧ s + 6 + 0 ≤ 7207017 := by omega
  simp (disch := first | assumption | omega) only [s_214_1689, s_214_1690, r_214_1690, s_214_1693, s_214_1694, r_214_1694, s_214_1697, s_214_1700, s_214_1701, jI_mul, jI_add, jI_tnc, jI_ixT, true_and, and_true, bZ_0, bZ_1, bZ_b, jI_nz, jI_div, jI_rem, jI_mod, Nat.add_zero, bI_if, not_false_iff, if_true, if_false, eq_self, hsc]
  refine (w_error hC).mpr ?_
  · skip
    have e14 : σ 368 14 = er := hR.2.2.2.2.2.2.2.2
    simp (disch := first | assumption | omega) only [s_214_1689, s_214_1690, r_214_1690, s_214_1693, s_214_1694, r_214_1694, s_214_1697, s_214_1700, s_214_1701, jI_mul, jI_add, jI_tnc, jI_ixT, true_and, and_true, bZ_0, bZ_1, bZ_b, jI_nz, jI_div, jI_rem, jI_mod, Nat.add_zero, bI_if, not_false_iff, if_true, if_false, eq_self, hsc]
    have e9 : σ 369 = g := (hR).1
    have e6 : σ 368 6 = jI H.length := (hR).2.1.2.1
    have el : H.length ≤ 8 := (hR).2.1.1
    have e7 : σ 368 7 = jI 0 := (hR).2.2.2.2.1
    rw [MM_MG e9]
    refine m_error.mpr ?_
    rw [e14]
    obtain ⟨a1, a2, a3⟩ := RI_code (v := jI 0) hR
    dsimp only at a1 a2 a3
    simp (disch := first | assumption | omega) only [s_214_1689, s_214_1690, r_214_1690, s_214_1693, s_214_1694, r_214_1694, s_214_1697, s_214_1700, s_214_1701, jI_mul, jI_add, jI_tnc, jI_ixT, true_and, and_true, bZ_0, bZ_1, bZ_b, jI_nz, jI_div, jI_rem, jI_mod, Nat.add_zero, bI_if, not_false_iff, if_true, if_false, eq_self, m_thrown, a2, eq_self, if_true, if_false]
    exact HN _ _ _ _ _ _ _ _ _ ⟨CI_pr (AllG.gd hA4) hC a3, a1, hA4⟩ ((a3 SCR (Or.inr SCR_hi)).trans hsc) (by omega) (by omega)

theorem L_refusal {s : Nat} (hL : LInv N σ G) (hN : N ≤ 100000000) (hi : i + 4 < Ln) (hLn : Ln ≤ 100000) (hsc : σ SCR = scr) (hk : k ≤ 603000) (hs : s ≤ 7207000) (HN : NXT N Ln i k s scr K) :
    Ev 214 (1702, [.ref SCR, .ref 0, .ref 368, .ref 377, .ref 378, .int (jI i), v6, v7, v8], [], k, s, MM Ln σ lo db) K := by
  obtain ⟨hC, hR, hA⟩ := hL
  have hG := hA.gd
  obtain ⟨⟨g, oh, ng, nd, nc, h⟩, H, sv, y0, d0, c, len, er⟩ := G
  have hS : Snd (g, oh, ng, nd, nc, h) := hA.1.1
  have hh : h ≤ N := hA.1.2
  have hA4 := hA.mono (show N ≤ N + 4000 by omega)
  obtain ⟨hB, hO, hNG, hAC⟩ := Snd_of hS
  have hBa := Bas_of hB hO
  have hB0 := hB
  obtain ⟨b1, b2, b3, b4, b5, b6, b7, b8, b9⟩ := hB
  have n1 : (jI 1 = jI 0) = False := jI_nz (by decide) (by decide)
  have n2 : (jI 2 = jI 0) = False := jI_nz (by decide) (by decide)
  have n3 : (jI 3 = jI 0) = False := jI_nz (by decide) (by decide)
  have hks : k + 1 ≤ 603072 ∧ s + 6 ≤ 7207017 := by omega
  have hks2 : k + 1 + 0 ≤ 603072 ∧ s + 6 + 0 ≤ 7207017 := by omega
  simp (disch := first | assumption | omega) only [s_214_1702, s_214_1703, s_214_1704, s_214_1706, s_214_1707, s_214_1708, s_214_1709, s_214_1712, s_214_1713, s_214_1716, s_214_1717, s_214_1718, r_214_1718, s_214_1721, s_214_1723, s_214_1724, s_214_1725, s_214_1727, s_214_1728, s_214_1729, s_214_1730, s_214_1733, s_214_1734, s_214_1737, s_214_1738, r_214_1738, s_214_1741, s_214_1743, s_214_1744, r_214_1744, s_214_1747, s_214_1749, s_214_1752, s_214_1753, s_214_1754, s_214_1756, s_214_1759, s_214_1760, s_214_1761, s_214_1762, s_214_1764, s_214_1765, s_214_1766, s_214_1769, s_214_1770, s_214_1771, jI_mul, jI_add, jI_tnc, jI_ixT, true_and, and_true, bZ_0, bZ_1, bZ_b, jI_nz, jI_div, jI_rem, jI_mod, Nat.add_zero, bI_if, not_false_iff, if_true, if_false, eq_self, hsc]
  by_cases z : scr (i + 1) = jI 0
  · rw [if_pos z]
    refine w_refusal (p := False) hG hC (fun q => ?_) (fun q => ?_)
    · skip
      have e10 : σ 368 10 = y0 := hR.2.2.2.2.2.1
      have e11 : σ 368 11 = d0 := hR.2.2.2.2.2.2.1
      simp (disch := first | assumption | omega) only [s_214_1702, s_214_1703, s_214_1704, s_214_1706, s_214_1707, s_214_1708, s_214_1709, s_214_1712, s_214_1713, s_214_1716, s_214_1717, s_214_1718, r_214_1718, s_214_1721, s_214_1723, s_214_1724, s_214_1725, s_214_1727, s_214_1728, s_214_1729, s_214_1730, s_214_1733, s_214_1734, s_214_1737, s_214_1738, r_214_1738, s_214_1741, s_214_1743, s_214_1744, r_214_1744, s_214_1747, s_214_1749, s_214_1752, s_214_1753, s_214_1754, s_214_1756, s_214_1759, s_214_1760, s_214_1761, s_214_1762, s_214_1764, s_214_1765, s_214_1766, s_214_1769, s_214_1770, s_214_1771, jI_mul, jI_add, jI_tnc, jI_ixT, true_and, and_true, bZ_0, bZ_1, bZ_b, jI_nz, jI_div, jI_rem, jI_mod, Nat.add_zero, bI_if, not_false_iff, if_true, if_false, eq_self, hsc]
      have e9 : σ 369 = g := (hR).1
      have e6 : σ 368 6 = jI H.length := (hR).2.1.2.1
      have el : H.length ≤ 8 := (hR).2.1.1
      have e7 : σ 368 7 = jI 0 := (hR).2.2.2.2.1
      rw [if_pos z, MM_MG e9]
      refine (m_refusal (p := False)).mpr ?_
      rw [e10, if_pos q]
      obtain ⟨a1, a2, a3⟩ := RI_code (v := jI 1) hR
      dsimp only at a1 a2 a3
      simp (disch := first | assumption | omega) only [s_214_1702, s_214_1703, s_214_1704, s_214_1706, s_214_1707, s_214_1708, s_214_1709, s_214_1712, s_214_1713, s_214_1716, s_214_1717, s_214_1718, r_214_1718, s_214_1721, s_214_1723, s_214_1724, s_214_1725, s_214_1727, s_214_1728, s_214_1729, s_214_1730, s_214_1733, s_214_1734, s_214_1737, s_214_1738, r_214_1738, s_214_1741, s_214_1743, s_214_1744, r_214_1744, s_214_1747, s_214_1749, s_214_1752, s_214_1753, s_214_1754, s_214_1756, s_214_1759, s_214_1760, s_214_1761, s_214_1762, s_214_1764, s_214_1765, s_214_1766, s_214_1769, s_214_1770, s_214_1771, jI_mul, jI_add, jI_tnc, jI_ixT, true_and, and_true, bZ_0, bZ_1, bZ_b, jI_nz, jI_div, jI_rem, jI_mod, Nat.add_zero, bI_if, not_false_iff, if_true, if_false, eq_self, m_thrown, a2, n1, if_true, if_false]
      exact HN _ _ _ _ _ _ _ _ _ ⟨CI_pr hG hC a3, a1, hA4⟩ ((a3 SCR (Or.inr SCR_hi)).trans hsc) (by omega) (by omega)
    · skip
      have e10 : σ 368 10 = y0 := hR.2.2.2.2.2.1
      have e11 : σ 368 11 = d0 := hR.2.2.2.2.2.2.1
      simp (disch := first | assumption | omega) only [s_214_1702, s_214_1703, s_214_1704, s_214_1706, s_214_1707, s_214_1708, s_214_1709, s_214_1712, s_214_1713, s_214_1716, s_214_1717, s_214_1718, r_214_1718, s_214_1721, s_214_1723, s_214_1724, s_214_1725, s_214_1727, s_214_1728, s_214_1729, s_214_1730, s_214_1733, s_214_1734, s_214_1737, s_214_1738, r_214_1738, s_214_1741, s_214_1743, s_214_1744, r_214_1744, s_214_1747, s_214_1749, s_214_1752, s_214_1753, s_214_1754, s_214_1756, s_214_1759, s_214_1760, s_214_1761, s_214_1762, s_214_1764, s_214_1765, s_214_1766, s_214_1769, s_214_1770, s_214_1771, jI_mul, jI_add, jI_tnc, jI_ixT, true_and, and_true, bZ_0, bZ_1, bZ_b, jI_nz, jI_div, jI_rem, jI_mod, Nat.add_zero, bI_if, not_false_iff, if_true, if_false, eq_self, hsc]
      have e9 : σ 369 = g := (hR).1
      have e6 : σ 368 6 = jI H.length := (hR).2.1.2.1
      have el : H.length ≤ 8 := (hR).2.1.1
      have e7 : σ 368 7 = jI 0 := (hR).2.2.2.2.1
      rw [if_pos z, MM_MG e9]
      refine (m_refusal (p := False)).mpr ?_
      rw [e10, e11, if_neg q]
      simp only [if_true, if_false]
      obtain ⟨a1, a2, a3⟩ := RI_code (v := jI 0) hR
      dsimp only at a1 a2 a3
      simp (disch := first | assumption | omega) only [s_214_1702, s_214_1703, s_214_1704, s_214_1706, s_214_1707, s_214_1708, s_214_1709, s_214_1712, s_214_1713, s_214_1716, s_214_1717, s_214_1718, r_214_1718, s_214_1721, s_214_1723, s_214_1724, s_214_1725, s_214_1727, s_214_1728, s_214_1729, s_214_1730, s_214_1733, s_214_1734, s_214_1737, s_214_1738, r_214_1738, s_214_1741, s_214_1743, s_214_1744, r_214_1744, s_214_1747, s_214_1749, s_214_1752, s_214_1753, s_214_1754, s_214_1756, s_214_1759, s_214_1760, s_214_1761, s_214_1762, s_214_1764, s_214_1765, s_214_1766, s_214_1769, s_214_1770, s_214_1771, jI_mul, jI_add, jI_tnc, jI_ixT, true_and, and_true, bZ_0, bZ_1, bZ_b, jI_nz, jI_div, jI_rem, jI_mod, Nat.add_zero, bI_if, not_false_iff, if_true, if_false, eq_self, m_thrown, a2, u2_lo, lgS, if_true, if_false]
      exact HN _ _ _ _ _ _ _ _ _ ⟨CI_pr hG hC a3, a1, hA4⟩ ((a3 SCR (Or.inr SCR_hi)).trans hsc) (by omega) (by omega)
  · rw [if_neg z]
    refine w_refusal (p := True) hG hC (fun q => ?_) (fun q => ?_)
    · skip
      have e10 : σ 368 10 = y0 := hR.2.2.2.2.2.1
      have e11 : σ 368 11 = d0 := hR.2.2.2.2.2.2.1
      simp (disch := first | assumption | omega) only [s_214_1702, s_214_1703, s_214_1704, s_214_1706, s_214_1707, s_214_1708, s_214_1709, s_214_1712, s_214_1713, s_214_1716, s_214_1717, s_214_1718, r_214_1718, s_214_1721, s_214_1723, s_214_1724, s_214_1725, s_214_1727, s_214_1728, s_214_1729, s_214_1730, s_214_1733, s_214_1734, s_214_1737, s_214_1738, r_214_1738, s_214_1741, s_214_1743, s_214_1744, r_214_1744, s_214_1747, s_214_1749, s_214_1752, s_214_1753, s_214_1754, s_214_1756, s_214_1759, s_214_1760, s_214_1761, s_214_1762, s_214_1764, s_214_1765, s_214_1766, s_214_1769, s_214_1770, s_214_1771, jI_mul, jI_add, jI_tnc, jI_ixT, true_and, and_true, bZ_0, bZ_1, bZ_b, jI_nz, jI_div, jI_rem, jI_mod, Nat.add_zero, bI_if, not_false_iff, if_true, if_false, eq_self, hsc]
      have e9 : σ 369 = g := (hR).1
      have e6 : σ 368 6 = jI H.length := (hR).2.1.2.1
      have el : H.length ≤ 8 := (hR).2.1.1
      have e7 : σ 368 7 = jI 0 := (hR).2.2.2.2.1
      rw [if_neg z, MM_MG e9]
      refine (m_refusal (p := True)).mpr ?_
      rw [e10, if_pos q]
      obtain ⟨a1, a2, a3⟩ := RI_code (v := jI 1) hR
      dsimp only at a1 a2 a3
      simp (disch := first | assumption | omega) only [s_214_1702, s_214_1703, s_214_1704, s_214_1706, s_214_1707, s_214_1708, s_214_1709, s_214_1712, s_214_1713, s_214_1716, s_214_1717, s_214_1718, r_214_1718, s_214_1721, s_214_1723, s_214_1724, s_214_1725, s_214_1727, s_214_1728, s_214_1729, s_214_1730, s_214_1733, s_214_1734, s_214_1737, s_214_1738, r_214_1738, s_214_1741, s_214_1743, s_214_1744, r_214_1744, s_214_1747, s_214_1749, s_214_1752, s_214_1753, s_214_1754, s_214_1756, s_214_1759, s_214_1760, s_214_1761, s_214_1762, s_214_1764, s_214_1765, s_214_1766, s_214_1769, s_214_1770, s_214_1771, jI_mul, jI_add, jI_tnc, jI_ixT, true_and, and_true, bZ_0, bZ_1, bZ_b, jI_nz, jI_div, jI_rem, jI_mod, Nat.add_zero, bI_if, not_false_iff, if_true, if_false, eq_self, m_thrown, a2, n1, if_true, if_false]
      exact HN _ _ _ _ _ _ _ _ _ ⟨CI_pr hG hC a3, a1, hA4⟩ ((a3 SCR (Or.inr SCR_hi)).trans hsc) (by omega) (by omega)
    · skip
      have e10 : σ 368 10 = y0 := hR.2.2.2.2.2.1
      have e11 : σ 368 11 = d0 := hR.2.2.2.2.2.2.1
      simp (disch := first | assumption | omega) only [s_214_1702, s_214_1703, s_214_1704, s_214_1706, s_214_1707, s_214_1708, s_214_1709, s_214_1712, s_214_1713, s_214_1716, s_214_1717, s_214_1718, r_214_1718, s_214_1721, s_214_1723, s_214_1724, s_214_1725, s_214_1727, s_214_1728, s_214_1729, s_214_1730, s_214_1733, s_214_1734, s_214_1737, s_214_1738, r_214_1738, s_214_1741, s_214_1743, s_214_1744, r_214_1744, s_214_1747, s_214_1749, s_214_1752, s_214_1753, s_214_1754, s_214_1756, s_214_1759, s_214_1760, s_214_1761, s_214_1762, s_214_1764, s_214_1765, s_214_1766, s_214_1769, s_214_1770, s_214_1771, jI_mul, jI_add, jI_tnc, jI_ixT, true_and, and_true, bZ_0, bZ_1, bZ_b, jI_nz, jI_div, jI_rem, jI_mod, Nat.add_zero, bI_if, not_false_iff, if_true, if_false, eq_self, hsc]
      have e9 : σ 369 = g := (hR).1
      have e6 : σ 368 6 = jI H.length := (hR).2.1.2.1
      have el : H.length ≤ 8 := (hR).2.1.1
      have e7 : σ 368 7 = jI 0 := (hR).2.2.2.2.1
      rw [if_neg z, MM_MG e9]
      refine (m_refusal (p := True)).mpr ?_
      rw [e10, e11, if_neg q]
      simp only [if_true, if_false]
      obtain ⟨a1, a2, a3⟩ := RI_code (v := jI 0) hR
      dsimp only at a1 a2 a3
      simp (disch := first | assumption | omega) only [s_214_1702, s_214_1703, s_214_1704, s_214_1706, s_214_1707, s_214_1708, s_214_1709, s_214_1712, s_214_1713, s_214_1716, s_214_1717, s_214_1718, r_214_1718, s_214_1721, s_214_1723, s_214_1724, s_214_1725, s_214_1727, s_214_1728, s_214_1729, s_214_1730, s_214_1733, s_214_1734, s_214_1737, s_214_1738, r_214_1738, s_214_1741, s_214_1743, s_214_1744, r_214_1744, s_214_1747, s_214_1749, s_214_1752, s_214_1753, s_214_1754, s_214_1756, s_214_1759, s_214_1760, s_214_1761, s_214_1762, s_214_1764, s_214_1765, s_214_1766, s_214_1769, s_214_1770, s_214_1771, jI_mul, jI_add, jI_tnc, jI_ixT, true_and, and_true, bZ_0, bZ_1, bZ_b, jI_nz, jI_div, jI_rem, jI_mod, Nat.add_zero, bI_if, not_false_iff, if_true, if_false, eq_self, m_thrown, a2, u2_lo, lgS, if_true, if_false]
      exact HN _ _ _ _ _ _ _ _ _ ⟨CI_pr hG hC a3, a1, hA4⟩ ((a3 SCR (Or.inr SCR_hi)).trans hsc) (by omega) (by omega)

theorem L_account {s : Nat} (hL : LInv N σ G) (hN : N ≤ 100000000) (hi : i + 4 < Ln) (hLn : Ln ≤ 100000) (hsc : σ SCR = scr) (hk : k ≤ 603000) (hs : s ≤ 7207000) (HN : NXT N Ln i k s scr K) :
    Ev 214 (1774, [.ref SCR, .ref 0, .ref 368, .ref 377, .ref 378, .int (jI i), v6, v7, v8], [], k, s, MM Ln σ lo db) K := by
  obtain ⟨hC, hR, hA⟩ := hL
  have hG := hA.gd
  obtain ⟨⟨g, oh, ng, nd, nc, h⟩, H, sv, y0, d0, c, len, er⟩ := G
  have hS : Snd (g, oh, ng, nd, nc, h) := hA.1.1
  have hh : h ≤ N := hA.1.2
  have hA4 := hA.mono (show N ≤ N + 4000 by omega)
  obtain ⟨hB, hO, hNG, hAC⟩ := Snd_of hS
  have hBa := Bas_of hB hO
  have hB0 := hB
  obtain ⟨b1, b2, b3, b4, b5, b6, b7, b8, b9⟩ := hB
  have n1 : (jI 1 = jI 0) = False := jI_nz (by decide) (by decide)
  have n2 : (jI 2 = jI 0) = False := jI_nz (by decide) (by decide)
  have n3 : (jI 3 = jI 0) = False := jI_nz (by decide) (by decide)
  have hks : k + 1 ≤ 603072 ∧ s + 6 ≤ 7207017 := by omega
  have hks2 : k + 1 + 0 ≤ 603072 ∧ s + 6 + 0 ≤ 7207017 := by omega
  simp (disch := first | assumption | omega) only [s_214_1774, s_214_1775, s_214_1776, s_214_1778, s_214_1779, s_214_1780, s_214_1781, s_214_1782, r_214_1782, s_214_1785, s_214_1787, s_214_1788, s_214_1789, s_214_1791, s_214_1792, s_214_1793, s_214_1794, r_214_1794, s_214_1797, s_214_1799, s_214_1800, r_214_1800, s_214_1803, s_214_1805, s_214_1808, s_214_1809, s_214_1810, s_214_1812, s_214_1815, s_214_1816, s_214_1817, s_214_1818, s_214_1820, s_214_1821, s_214_1822, s_214_1825, s_214_1826, s_214_1827, jI_mul, jI_add, jI_tnc, jI_ixT, true_and, and_true, bZ_0, bZ_1, bZ_b, jI_nz, jI_div, jI_rem, jI_mod, Nat.add_zero, bI_if, not_false_iff, if_true, if_false, eq_self, hsc]
  refine w_account hG hC (fun q => ?_) (fun n hn en => ?_)
  · skip
    simp (disch := first | assumption | omega) only [s_214_1774, s_214_1775, s_214_1776, s_214_1778, s_214_1779, s_214_1780, s_214_1781, s_214_1782, r_214_1782, s_214_1785, s_214_1787, s_214_1788, s_214_1789, s_214_1791, s_214_1792, s_214_1793, s_214_1794, r_214_1794, s_214_1797, s_214_1799, s_214_1800, r_214_1800, s_214_1803, s_214_1805, s_214_1808, s_214_1809, s_214_1810, s_214_1812, s_214_1815, s_214_1816, s_214_1817, s_214_1818, s_214_1820, s_214_1821, s_214_1822, s_214_1825, s_214_1826, s_214_1827, jI_mul, jI_add, jI_tnc, jI_ixT, true_and, and_true, bZ_0, bZ_1, bZ_b, jI_nz, jI_div, jI_rem, jI_mod, Nat.add_zero, bI_if, not_false_iff, if_true, if_false, eq_self, hsc]
    have e9 : σ 369 = g := (hR).1
    have e6 : σ 368 6 = jI H.length := (hR).2.1.2.1
    have el : H.length ≤ 8 := (hR).2.1.1
    have e7 : σ 368 7 = jI 0 := (hR).2.2.2.2.1
    rw [MM_MG e9]
    refine m_account b2 b6 (hR.2.2.2.2.2.2.2.1).2.1 e6 (fun _ => ?_) (fun n hn en => absurd (rng_mk en (Nat.zero_le _) hn (by decide)) q)
    obtain ⟨a1, a2, a3⟩ := RI_code (v := jI 1) hR
    dsimp only at a1 a2 a3
    simp (disch := first | assumption | omega) only [s_214_1774, s_214_1775, s_214_1776, s_214_1778, s_214_1779, s_214_1780, s_214_1781, s_214_1782, r_214_1782, s_214_1785, s_214_1787, s_214_1788, s_214_1789, s_214_1791, s_214_1792, s_214_1793, s_214_1794, r_214_1794, s_214_1797, s_214_1799, s_214_1800, r_214_1800, s_214_1803, s_214_1805, s_214_1808, s_214_1809, s_214_1810, s_214_1812, s_214_1815, s_214_1816, s_214_1817, s_214_1818, s_214_1820, s_214_1821, s_214_1822, s_214_1825, s_214_1826, s_214_1827, jI_mul, jI_add, jI_tnc, jI_ixT, true_and, and_true, bZ_0, bZ_1, bZ_b, jI_nz, jI_div, jI_rem, jI_mod, Nat.add_zero, bI_if, not_false_iff, if_true, if_false, eq_self, m_thrown, a2, n1, if_true, if_false]
    exact HN _ _ _ _ _ _ _ _ _ ⟨CI_pr hG hC a3, a1, hA4⟩ ((a3 SCR (Or.inr SCR_hi)).trans hsc) (by omega) (by omega)
  · skip
    simp (disch := first | assumption | omega) only [s_214_1774, s_214_1775, s_214_1776, s_214_1778, s_214_1779, s_214_1780, s_214_1781, s_214_1782, r_214_1782, s_214_1785, s_214_1787, s_214_1788, s_214_1789, s_214_1791, s_214_1792, s_214_1793, s_214_1794, r_214_1794, s_214_1797, s_214_1799, s_214_1800, r_214_1800, s_214_1803, s_214_1805, s_214_1808, s_214_1809, s_214_1810, s_214_1812, s_214_1815, s_214_1816, s_214_1817, s_214_1818, s_214_1820, s_214_1821, s_214_1822, s_214_1825, s_214_1826, s_214_1827, jI_mul, jI_add, jI_tnc, jI_ixT, true_and, and_true, bZ_0, bZ_1, bZ_b, jI_nz, jI_div, jI_rem, jI_mod, Nat.add_zero, bI_if, not_false_iff, if_true, if_false, eq_self, hsc]
    have e9 : σ 369 = g := (hR).1
    have e6 : σ 368 6 = jI H.length := (hR).2.1.2.1
    have el : H.length ≤ 8 := (hR).2.1.1
    have e7 : σ 368 7 = jI 0 := (hR).2.2.2.2.1
    rw [MM_MG e9]
    refine m_account b2 b6 (hR.2.2.2.2.2.2.2.1).2.1 e6 (fun q' => absurd (rng_mk en (Nat.zero_le _) hn (by decide)) q') (fun n' hn' en' => ?_)
    obtain rfl : n = n' := jI_c en en' (by omega) (by omega)
    obtain ⟨a1, a2, a3⟩ := RI_code (v := jI 0) hR
    dsimp only at a1 a2 a3
    simp (disch := first | assumption | omega) only [s_214_1774, s_214_1775, s_214_1776, s_214_1778, s_214_1779, s_214_1780, s_214_1781, s_214_1782, r_214_1782, s_214_1785, s_214_1787, s_214_1788, s_214_1789, s_214_1791, s_214_1792, s_214_1793, s_214_1794, r_214_1794, s_214_1797, s_214_1799, s_214_1800, r_214_1800, s_214_1803, s_214_1805, s_214_1808, s_214_1809, s_214_1810, s_214_1812, s_214_1815, s_214_1816, s_214_1817, s_214_1818, s_214_1820, s_214_1821, s_214_1822, s_214_1825, s_214_1826, s_214_1827, jI_mul, jI_add, jI_tnc, jI_ixT, true_and, and_true, bZ_0, bZ_1, bZ_b, jI_nz, jI_div, jI_rem, jI_mod, Nat.add_zero, bI_if, not_false_iff, if_true, if_false, eq_self, m_thrown, a2, u2_lo, lgS, if_true, if_false]
    exact HN _ _ _ _ _ _ _ _ _ ⟨CI_pr hG hC a3, a1, hA4⟩ ((a3 SCR (Or.inr SCR_hi)).trans hsc) (by omega) (by omega)

theorem L_isWell {s : Nat} (hL : LInv N σ G) (hN : N ≤ 100000000) (hi : i + 4 < Ln) (hLn : Ln ≤ 100000) (hsc : σ SCR = scr) (hk : k ≤ 603000) (hs : s ≤ 7207000) (HN : NXT N Ln i k s scr K) :
    Ev 214 (1830, [.ref SCR, .ref 0, .ref 368, .ref 377, .ref 378, .int (jI i), v6, v7, v8], [], k, s, MM Ln σ lo db) K := by
  obtain ⟨hC, hR, hA⟩ := hL
  have hG := hA.gd
  obtain ⟨⟨g, oh, ng, nd, nc, h⟩, H, sv, y0, d0, c, len, er⟩ := G
  have hS : Snd (g, oh, ng, nd, nc, h) := hA.1.1
  have hh : h ≤ N := hA.1.2
  have hA4 := hA.mono (show N ≤ N + 4000 by omega)
  obtain ⟨hB, hO, hNG, hAC⟩ := Snd_of hS
  have hBa := Bas_of hB hO
  have hB0 := hB
  obtain ⟨b1, b2, b3, b4, b5, b6, b7, b8, b9⟩ := hB
  have n1 : (jI 1 = jI 0) = False := jI_nz (by decide) (by decide)
  have n2 : (jI 2 = jI 0) = False := jI_nz (by decide) (by decide)
  have n3 : (jI 3 = jI 0) = False := jI_nz (by decide) (by decide)
  have hks : k + 1 ≤ 603072 ∧ s + 6 ≤ 7207017 := by omega
  have hks2 : k + 1 + 0 ≤ 603072 ∧ s + 6 + 0 ≤ 7207017 := by omega
  simp (disch := first | assumption | omega) only [s_214_1830, s_214_1831, r_214_1831, s_214_1834, s_214_1835, r_214_1835, s_214_1838, s_214_1841, s_214_1842, jI_mul, jI_add, jI_tnc, jI_ixT, true_and, and_true, bZ_0, bZ_1, bZ_b, jI_nz, jI_div, jI_rem, jI_mod, Nat.add_zero, bI_if, not_false_iff, if_true, if_false, eq_self, hsc]
  refine w_isWell hG hC (by rw [hAC.2.2.1, hAC.2.2.2]; exact hAC.2.1) hAC.2.2.1 (by rw [kept_all b1 b9 hAC]; exact hAC.2.2.1) hAC.2.2.2 ?_
  · skip
    simp (disch := first | assumption | omega) only [s_214_1830, s_214_1831, r_214_1831, s_214_1834, s_214_1835, r_214_1835, s_214_1838, s_214_1841, s_214_1842, jI_mul, jI_add, jI_tnc, jI_ixT, true_and, and_true, bZ_0, bZ_1, bZ_b, jI_nz, jI_div, jI_rem, jI_mod, Nat.add_zero, bI_if, not_false_iff, if_true, if_false, eq_self, hsc]
    have e9 : σ 369 = g := (hR).1
    have e6 : σ 368 6 = jI H.length := (hR).2.1.2.1
    have el : H.length ≤ 8 := (hR).2.1.1
    have e7 : σ 368 7 = jI 0 := (hR).2.2.2.2.1
    rw [MM_MG e9]
    refine m_isWell b1 b5 b2 b6 hAC.1 hAC.2.1 ?_
    obtain ⟨a1, a2, a3⟩ := RI_code (v := jI 0) hR
    dsimp only at a1 a2 a3
    simp (disch := first | assumption | omega) only [s_214_1830, s_214_1831, r_214_1831, s_214_1834, s_214_1835, r_214_1835, s_214_1838, s_214_1841, s_214_1842, jI_mul, jI_add, jI_tnc, jI_ixT, true_and, and_true, bZ_0, bZ_1, bZ_b, jI_nz, jI_div, jI_rem, jI_mod, Nat.add_zero, bI_if, not_false_iff, if_true, if_false, eq_self, m_thrown, a2, eq_self, if_true, if_false]
    exact HN _ _ _ _ _ _ _ _ _ ⟨CI_pr (AllG.gd hA4) hC a3, a1, hA4⟩ ((a3 SCR (Or.inr SCR_hi)).trans hsc) (by omega) (by omega)

theorem L_share {s : Nat} (hL : LInv N σ G) (hN : N ≤ 100000000) (hi : i + 4 < Ln) (hLn : Ln ≤ 100000) (hsc : σ SCR = scr) (hk : k ≤ 603000) (hs : s ≤ 7207000) (HN : NXT N Ln i k s scr K) :
    Ev 214 (1843, [.ref SCR, .ref 0, .ref 368, .ref 377, .ref 378, .int (jI i), v6, v7, v8], [], k, s, MM Ln σ lo db) K := by
  obtain ⟨hC, hR, hA⟩ := hL
  have hG := hA.gd
  obtain ⟨⟨g, oh, ng, nd, nc, h⟩, H, sv, y0, d0, c, len, er⟩ := G
  have hS : Snd (g, oh, ng, nd, nc, h) := hA.1.1
  have hh : h ≤ N := hA.1.2
  have hA4 := hA.mono (show N ≤ N + 4000 by omega)
  obtain ⟨hB, hO, hNG, hAC⟩ := Snd_of hS
  have hBa := Bas_of hB hO
  have hB0 := hB
  obtain ⟨b1, b2, b3, b4, b5, b6, b7, b8, b9⟩ := hB
  have n1 : (jI 1 = jI 0) = False := jI_nz (by decide) (by decide)
  have n2 : (jI 2 = jI 0) = False := jI_nz (by decide) (by decide)
  have n3 : (jI 3 = jI 0) = False := jI_nz (by decide) (by decide)
  have hks : k + 1 ≤ 603072 ∧ s + 6 ≤ 7207017 := by omega
  have hks2 : k + 1 + 0 ≤ 603072 ∧ s + 6 + 0 ≤ 7207017 := by omega
  simp (disch := first | assumption | omega) only [s_214_1843, s_214_1844, s_214_1846, r_214_1846, s_214_1849, s_214_1851, s_214_1852, r_214_1852, s_214_1855, s_214_1857, s_214_1858, r_214_1858, s_214_1861, s_214_1863, s_214_1866, s_214_1867, s_214_1868, s_214_1870, s_214_1873, s_214_1875, s_214_1876, s_214_1877, s_214_1879, s_214_1880, s_214_1881, s_214_1884, s_214_1886, s_214_1887, s_214_1888, s_214_1890, s_214_1891, s_214_1892, s_214_1893, s_214_1896, s_214_1898, s_214_1900, s_214_1901, s_214_1904, s_214_1905, s_214_1906, jI_mul, jI_add, jI_tnc, jI_ixT, true_and, and_true, bZ_0, bZ_1, bZ_b, jI_nz, jI_div, jI_rem, jI_mod, Nat.add_zero, bI_if, not_false_iff, if_true, if_false, eq_self, hsc]
  refine w_share hG hC (fun q => ?_) (fun q => ?_)
  · skip
    simp (disch := first | assumption | omega) only [s_214_1843, s_214_1844, s_214_1846, r_214_1846, s_214_1849, s_214_1851, s_214_1852, r_214_1852, s_214_1855, s_214_1857, s_214_1858, r_214_1858, s_214_1861, s_214_1863, s_214_1866, s_214_1867, s_214_1868, s_214_1870, s_214_1873, s_214_1875, s_214_1876, s_214_1877, s_214_1879, s_214_1880, s_214_1881, s_214_1884, s_214_1886, s_214_1887, s_214_1888, s_214_1890, s_214_1891, s_214_1892, s_214_1893, s_214_1896, s_214_1898, s_214_1900, s_214_1901, s_214_1904, s_214_1905, s_214_1906, jI_mul, jI_add, jI_tnc, jI_ixT, true_and, and_true, bZ_0, bZ_1, bZ_b, jI_nz, jI_div, jI_rem, jI_mod, Nat.add_zero, bI_if, not_false_iff, if_true, if_false, eq_self, hsc]
    have e9 : σ 369 = g := (hR).1
    have e6 : σ 368 6 = jI H.length := (hR).2.1.2.1
    have el : H.length ≤ 8 := (hR).2.1.1
    have e7 : σ 368 7 = jI 0 := (hR).2.2.2.2.1
    rw [MM_MG e9]
    refine m_share (fun _ => ?_) (fun q => fl_fdiv (a := g 9) (b := g 7) q) (fun q' => absurd q q')
    obtain ⟨a1, a2, a3⟩ := RI_code (v := jI 1) hR
    dsimp only at a1 a2 a3
    simp (disch := first | assumption | omega) only [s_214_1843, s_214_1844, s_214_1846, r_214_1846, s_214_1849, s_214_1851, s_214_1852, r_214_1852, s_214_1855, s_214_1857, s_214_1858, r_214_1858, s_214_1861, s_214_1863, s_214_1866, s_214_1867, s_214_1868, s_214_1870, s_214_1873, s_214_1875, s_214_1876, s_214_1877, s_214_1879, s_214_1880, s_214_1881, s_214_1884, s_214_1886, s_214_1887, s_214_1888, s_214_1890, s_214_1891, s_214_1892, s_214_1893, s_214_1896, s_214_1898, s_214_1900, s_214_1901, s_214_1904, s_214_1905, s_214_1906, jI_mul, jI_add, jI_tnc, jI_ixT, true_and, and_true, bZ_0, bZ_1, bZ_b, jI_nz, jI_div, jI_rem, jI_mod, Nat.add_zero, bI_if, not_false_iff, if_true, if_false, eq_self, m_thrown, a2, n1, if_true, if_false]
    exact HN _ _ _ _ _ _ _ _ _ ⟨CI_pr hG hC a3, a1, hA4⟩ ((a3 SCR (Or.inr SCR_hi)).trans hsc) (by omega) (by omega)
  · skip
    have hf := fl_f2d (fl_fdiv (a := g 9) (b := g 7) q)
    simp (disch := first | assumption | omega) only [s_214_1843, s_214_1844, s_214_1846, r_214_1846, s_214_1849, s_214_1851, s_214_1852, r_214_1852, s_214_1855, s_214_1857, s_214_1858, r_214_1858, s_214_1861, s_214_1863, s_214_1866, s_214_1867, s_214_1868, s_214_1870, s_214_1873, s_214_1875, s_214_1876, s_214_1877, s_214_1879, s_214_1880, s_214_1881, s_214_1884, s_214_1886, s_214_1887, s_214_1888, s_214_1890, s_214_1891, s_214_1892, s_214_1893, s_214_1896, s_214_1898, s_214_1900, s_214_1901, s_214_1904, s_214_1905, s_214_1906, jI_mul, jI_add, jI_tnc, jI_ixT, true_and, and_true, bZ_0, bZ_1, bZ_b, jI_nz, jI_div, jI_rem, jI_mod, Nat.add_zero, bI_if, not_false_iff, if_true, if_false, eq_self, hsc]
    have e9 : σ 369 = g := (hR).1
    have e6 : σ 368 6 = jI H.length := (hR).2.1.2.1
    have el : H.length ≤ 8 := (hR).2.1.1
    have e7 : σ 368 7 = jI 0 := (hR).2.2.2.2.1
    rw [MM_MG e9]
    refine m_share (fun q' => absurd q' q) (fun q => fl_fdiv (a := g 9) (b := g 7) q) (fun _ => ?_)
    obtain ⟨a1, a2, a3⟩ := RI_code (v := jI 0) hR
    dsimp only at a1 a2 a3
    simp (disch := first | assumption | omega) only [s_214_1843, s_214_1844, s_214_1846, r_214_1846, s_214_1849, s_214_1851, s_214_1852, r_214_1852, s_214_1855, s_214_1857, s_214_1858, r_214_1858, s_214_1861, s_214_1863, s_214_1866, s_214_1867, s_214_1868, s_214_1870, s_214_1873, s_214_1875, s_214_1876, s_214_1877, s_214_1879, s_214_1880, s_214_1881, s_214_1884, s_214_1886, s_214_1887, s_214_1888, s_214_1890, s_214_1891, s_214_1892, s_214_1893, s_214_1896, s_214_1898, s_214_1900, s_214_1901, s_214_1904, s_214_1905, s_214_1906, jI_mul, jI_add, jI_tnc, jI_ixT, true_and, and_true, bZ_0, bZ_1, bZ_b, jI_nz, jI_div, jI_rem, jI_mod, Nat.add_zero, bI_if, not_false_iff, if_true, if_false, eq_self, m_thrown, a2, u2_lo, dcS hf, if_true, if_false]
    exact HN _ _ _ _ _ _ _ _ _ ⟨CI_pr (AllG.gd hA4) hC a3, a1, hA4⟩ ((a3 SCR (Or.inr SCR_hi)).trans hsc) (by omega) (by omega)

theorem L_mean {s : Nat} (hL : LInv N σ G) (hN : N ≤ 100000000) (hi : i + 4 < Ln) (hLn : Ln ≤ 100000) (hsc : σ SCR = scr) (hk : k ≤ 603000) (hs : s ≤ 7207000) (HN : NXT N Ln i k s scr K) :
    Ev 214 (1909, [.ref SCR, .ref 0, .ref 368, .ref 377, .ref 378, .int (jI i), v6, v7, v8], [], k, s, MM Ln σ lo db) K := by
  obtain ⟨hC, hR, hA⟩ := hL
  have hG := hA.gd
  obtain ⟨⟨g, oh, ng, nd, nc, h⟩, H, sv, y0, d0, c, len, er⟩ := G
  have hS : Snd (g, oh, ng, nd, nc, h) := hA.1.1
  have hh : h ≤ N := hA.1.2
  have hA4 := hA.mono (show N ≤ N + 4000 by omega)
  obtain ⟨hB, hO, hNG, hAC⟩ := Snd_of hS
  have hBa := Bas_of hB hO
  have hB0 := hB
  obtain ⟨b1, b2, b3, b4, b5, b6, b7, b8, b9⟩ := hB
  have n1 : (jI 1 = jI 0) = False := jI_nz (by decide) (by decide)
  have n2 : (jI 2 = jI 0) = False := jI_nz (by decide) (by decide)
  have n3 : (jI 3 = jI 0) = False := jI_nz (by decide) (by decide)
  have hks : k + 1 ≤ 603072 ∧ s + 6 ≤ 7207017 := by omega
  have hks2 : k + 1 + 0 ≤ 603072 ∧ s + 6 + 0 ≤ 7207017 := by omega
  simp (disch := first | assumption | omega) only [s_214_1909, s_214_1910, s_214_1912, r_214_1912, s_214_1915, s_214_1917, s_214_1918, r_214_1918, s_214_1921, s_214_1923, s_214_1924, r_214_1924, s_214_1927, s_214_1929, s_214_1932, s_214_1933, s_214_1934, s_214_1936, s_214_1939, s_214_1941, s_214_1942, s_214_1943, s_214_1945, s_214_1946, s_214_1949, s_214_1951, s_214_1952, s_214_1953, s_214_1955, s_214_1956, s_214_1957, s_214_1958, s_214_1961, s_214_1963, s_214_1965, s_214_1966, s_214_1969, s_214_1970, s_214_1971, jI_mul, jI_add, jI_tnc, jI_ixT, true_and, and_true, bZ_0, bZ_1, bZ_b, jI_nz, jI_div, jI_rem, jI_mod, Nat.add_zero, bI_if, not_false_iff, if_true, if_false, eq_self, hsc]
  refine w_meanThirst hG hC (fun q => ?_) (fun q => ?_)
  · skip
    simp (disch := first | assumption | omega) only [s_214_1909, s_214_1910, s_214_1912, r_214_1912, s_214_1915, s_214_1917, s_214_1918, r_214_1918, s_214_1921, s_214_1923, s_214_1924, r_214_1924, s_214_1927, s_214_1929, s_214_1932, s_214_1933, s_214_1934, s_214_1936, s_214_1939, s_214_1941, s_214_1942, s_214_1943, s_214_1945, s_214_1946, s_214_1949, s_214_1951, s_214_1952, s_214_1953, s_214_1955, s_214_1956, s_214_1957, s_214_1958, s_214_1961, s_214_1963, s_214_1965, s_214_1966, s_214_1969, s_214_1970, s_214_1971, jI_mul, jI_add, jI_tnc, jI_ixT, true_and, and_true, bZ_0, bZ_1, bZ_b, jI_nz, jI_div, jI_rem, jI_mod, Nat.add_zero, bI_if, not_false_iff, if_true, if_false, eq_self, hsc]
    have e9 : σ 369 = g := (hR).1
    have e6 : σ 368 6 = jI H.length := (hR).2.1.2.1
    have el : H.length ≤ 8 := (hR).2.1.1
    have e7 : σ 368 7 = jI 0 := (hR).2.2.2.2.1
    rw [MM_MG e9]
    refine m_meanThirst b2 b6 (fun _ => ?_) (fun q => fl_ddiv (a := sumS g nd 4) (b := jI nd) (fun e => cast (jI_nz q (by omega)) e)) (fun q' => absurd q (by omega))
    obtain ⟨a1, a2, a3⟩ := RI_code (v := jI 1) hR
    dsimp only at a1 a2 a3
    simp (disch := first | assumption | omega) only [s_214_1909, s_214_1910, s_214_1912, r_214_1912, s_214_1915, s_214_1917, s_214_1918, r_214_1918, s_214_1921, s_214_1923, s_214_1924, r_214_1924, s_214_1927, s_214_1929, s_214_1932, s_214_1933, s_214_1934, s_214_1936, s_214_1939, s_214_1941, s_214_1942, s_214_1943, s_214_1945, s_214_1946, s_214_1949, s_214_1951, s_214_1952, s_214_1953, s_214_1955, s_214_1956, s_214_1957, s_214_1958, s_214_1961, s_214_1963, s_214_1965, s_214_1966, s_214_1969, s_214_1970, s_214_1971, jI_mul, jI_add, jI_tnc, jI_ixT, true_and, and_true, bZ_0, bZ_1, bZ_b, jI_nz, jI_div, jI_rem, jI_mod, Nat.add_zero, bI_if, not_false_iff, if_true, if_false, eq_self, m_thrown, a2, n1, if_true, if_false]
    exact HN _ _ _ _ _ _ _ _ _ ⟨CI_pr hG hC a3, a1, hA4⟩ ((a3 SCR (Or.inr SCR_hi)).trans hsc) (by omega) (by omega)
  · skip
    have hf := fl_ddiv (a := sumS g nd 4) (b := jI nd) (fun e => cast (jI_nz q (by omega)) e)
    simp (disch := first | assumption | omega) only [s_214_1909, s_214_1910, s_214_1912, r_214_1912, s_214_1915, s_214_1917, s_214_1918, r_214_1918, s_214_1921, s_214_1923, s_214_1924, r_214_1924, s_214_1927, s_214_1929, s_214_1932, s_214_1933, s_214_1934, s_214_1936, s_214_1939, s_214_1941, s_214_1942, s_214_1943, s_214_1945, s_214_1946, s_214_1949, s_214_1951, s_214_1952, s_214_1953, s_214_1955, s_214_1956, s_214_1957, s_214_1958, s_214_1961, s_214_1963, s_214_1965, s_214_1966, s_214_1969, s_214_1970, s_214_1971, jI_mul, jI_add, jI_tnc, jI_ixT, true_and, and_true, bZ_0, bZ_1, bZ_b, jI_nz, jI_div, jI_rem, jI_mod, Nat.add_zero, bI_if, not_false_iff, if_true, if_false, eq_self, hsc]
    have e9 : σ 369 = g := (hR).1
    have e6 : σ 368 6 = jI H.length := (hR).2.1.2.1
    have el : H.length ≤ 8 := (hR).2.1.1
    have e7 : σ 368 7 = jI 0 := (hR).2.2.2.2.1
    rw [MM_MG e9]
    refine m_meanThirst b2 b6 (fun q' => absurd q' (by omega)) (fun q => fl_ddiv (a := sumS g nd 4) (b := jI nd) (fun e => cast (jI_nz q (by omega)) e)) (fun _ => ?_)
    obtain ⟨a1, a2, a3⟩ := RI_code (v := jI 0) hR
    dsimp only at a1 a2 a3
    simp (disch := first | assumption | omega) only [s_214_1909, s_214_1910, s_214_1912, r_214_1912, s_214_1915, s_214_1917, s_214_1918, r_214_1918, s_214_1921, s_214_1923, s_214_1924, r_214_1924, s_214_1927, s_214_1929, s_214_1932, s_214_1933, s_214_1934, s_214_1936, s_214_1939, s_214_1941, s_214_1942, s_214_1943, s_214_1945, s_214_1946, s_214_1949, s_214_1951, s_214_1952, s_214_1953, s_214_1955, s_214_1956, s_214_1957, s_214_1958, s_214_1961, s_214_1963, s_214_1965, s_214_1966, s_214_1969, s_214_1970, s_214_1971, jI_mul, jI_add, jI_tnc, jI_ixT, true_and, and_true, bZ_0, bZ_1, bZ_b, jI_nz, jI_div, jI_rem, jI_mod, Nat.add_zero, bI_if, not_false_iff, if_true, if_false, eq_self, m_thrown, a2, u2_lo, dcS hf, if_true, if_false]
    exact HN _ _ _ _ _ _ _ _ _ ⟨CI_pr (AllG.gd hA4) hC a3, a1, hA4⟩ ((a3 SCR (Or.inr SCR_hi)).trans hsc) (by omega) (by omega)

theorem L_undo {s : Nat} (hL : LInv N σ G) (hN : N ≤ 100000000) (hi : i + 4 < Ln) (hLn : Ln ≤ 100000) (hsc : σ SCR = scr) (hk : k ≤ 603000) (hs : s ≤ 7207000) (HN : NXT N Ln i k s scr K) :
    Ev 214 (1974, [.ref SCR, .ref 0, .ref 368, .ref 377, .ref 378, .int (jI i), v6, v7, v8], [], k, s, MM Ln σ lo db) K := by
  obtain ⟨hC, hR, hA⟩ := hL
  have hG := hA.gd
  obtain ⟨⟨g, oh, ng, nd, nc, h⟩, H, sv, y0, d0, c, len, er⟩ := G
  have hS : Snd (g, oh, ng, nd, nc, h) := hA.1.1
  have hh : h ≤ N := hA.1.2
  have hA4 := hA.mono (show N ≤ N + 4000 by omega)
  obtain ⟨hB, hO, hNG, hAC⟩ := Snd_of hS
  have hBa := Bas_of hB hO
  have hB0 := hB
  obtain ⟨b1, b2, b3, b4, b5, b6, b7, b8, b9⟩ := hB
  have n1 : (jI 1 = jI 0) = False := jI_nz (by decide) (by decide)
  have n2 : (jI 2 = jI 0) = False := jI_nz (by decide) (by decide)
  have n3 : (jI 3 = jI 0) = False := jI_nz (by decide) (by decide)
  have hks : k + 1 ≤ 603072 ∧ s + 6 ≤ 7207017 := by omega
  have hks2 : k + 1 + 0 ≤ 603072 ∧ s + 6 + 0 ≤ 7207017 := by omega
  simp (disch := first | assumption | omega) only [s_214_1974, s_214_1975, s_214_1976, r_214_1976, s_214_1979, s_214_1981, s_214_1982, r_214_1982, s_214_1985, s_214_1987, s_214_1988, r_214_1988, s_214_1991, s_214_1993, s_214_1996, s_214_1997, s_214_1998, s_214_2000, s_214_2003, s_214_2004, s_214_2005, s_214_2006, s_214_2008, s_214_2009, s_214_2010, s_214_2013, s_214_2014, s_214_2015, jI_mul, jI_add, jI_tnc, jI_ixT, true_and, and_true, bZ_0, bZ_1, bZ_b, jI_nz, jI_div, jI_rem, jI_mod, Nat.add_zero, bI_if, not_false_iff, if_true, if_false, eq_self, hsc]
  refine w_undo hG hC (fun q => ?_) (fun t H' hH σ1 hC1 p1 => ?_)
  · skip
    simp (disch := first | assumption | omega) only [s_214_1974, s_214_1975, s_214_1976, r_214_1976, s_214_1979, s_214_1981, s_214_1982, r_214_1982, s_214_1985, s_214_1987, s_214_1988, r_214_1988, s_214_1991, s_214_1993, s_214_1996, s_214_1997, s_214_1998, s_214_2000, s_214_2003, s_214_2004, s_214_2005, s_214_2006, s_214_2008, s_214_2009, s_214_2010, s_214_2013, s_214_2014, s_214_2015, jI_mul, jI_add, jI_tnc, jI_ixT, true_and, and_true, bZ_0, bZ_1, bZ_b, jI_nz, jI_div, jI_rem, jI_mod, Nat.add_zero, bI_if, not_false_iff, if_true, if_false, eq_self, hsc]
    have e9 : σ 369 = g := (hR).1
    have e6 : σ 368 6 = jI H.length := (hR).2.1.2.1
    have el : H.length ≤ 8 := (hR).2.1.1
    have e7 : σ 368 7 = jI 0 := (hR).2.2.2.2.1
    rw [MM_MG e9]
    refine m_undo e6 el (fun _ => ?_) (fun n hn => by rw [q] at hn; exact absurd hn (Nat.succ_ne_zero n).symm)
    obtain ⟨a1, a2, a3⟩ := RI_code (v := jI 1) hR
    dsimp only at a1 a2 a3
    simp (disch := first | assumption | omega) only [s_214_1974, s_214_1975, s_214_1976, r_214_1976, s_214_1979, s_214_1981, s_214_1982, r_214_1982, s_214_1985, s_214_1987, s_214_1988, r_214_1988, s_214_1991, s_214_1993, s_214_1996, s_214_1997, s_214_1998, s_214_2000, s_214_2003, s_214_2004, s_214_2005, s_214_2006, s_214_2008, s_214_2009, s_214_2010, s_214_2013, s_214_2014, s_214_2015, jI_mul, jI_add, jI_tnc, jI_ixT, true_and, and_true, bZ_0, bZ_1, bZ_b, jI_nz, jI_div, jI_rem, jI_mod, Nat.add_zero, bI_if, not_false_iff, if_true, if_false, eq_self, m_thrown, a2, n1, if_true, if_false]
    exact HN _ _ _ _ _ _ _ _ _ ⟨CI_pr hG hC a3, a1, hA4⟩ ((a3 SCR (Or.inr SCR_hi)).trans hsc) (by omega) (by omega)
  · skip
    have hR1 := RI_pc hR p1
    have hsc1 : σ1 SCR = scr := (p1 SCR (by have := SCR_hi; omega)).trans hsc
    subst hH
    have ht := hA4.2.1 t (List.mem_cons_self)
    have hA1 : AllG (N + 4000) (t, H', sv, y0, d0, c, len, er) := ⟨ht, fun u hu => hA4.2.1 u (List.mem_cons_of_mem _ hu), hA4.2.2⟩
    simp (disch := first | assumption | omega) only [s_214_1974, s_214_1975, s_214_1976, r_214_1976, s_214_1979, s_214_1981, s_214_1982, r_214_1982, s_214_1985, s_214_1987, s_214_1988, r_214_1988, s_214_1991, s_214_1993, s_214_1996, s_214_1997, s_214_1998, s_214_2000, s_214_2003, s_214_2004, s_214_2005, s_214_2006, s_214_2008, s_214_2009, s_214_2010, s_214_2013, s_214_2014, s_214_2015, jI_mul, jI_add, jI_tnc, jI_ixT, true_and, and_true, bZ_0, bZ_1, bZ_b, jI_nz, jI_div, jI_rem, jI_mod, Nat.add_zero, bI_if, not_false_iff, if_true, if_false, eq_self, hsc1]
    have e9 : σ1 369 = g := (hR1).1
    have e6 : σ1 368 6 = jI (t :: H').length := (hR1).2.1.2.1
    have el : (t :: H').length ≤ 8 := (hR1).2.1.1
    have e7 : σ1 368 7 = jI 0 := (hR1).2.2.2.2.1
    rw [MM_MG e9]
    refine m_undo e6 el (fun h0 => absurd h0 (Nat.succ_ne_zero _)) (fun n hn => ?_)
    obtain rfl : n = H'.length := by have : H'.length + 1 = n + 1 := hn; omega
    obtain ⟨a1, a2, a3⟩ := RI_undo hR1 hNG ht.1.2.2.1
    dsimp only at a1 a2 a3
    simp (disch := first | assumption | omega) only [s_214_1974, s_214_1975, s_214_1976, r_214_1976, s_214_1979, s_214_1981, s_214_1982, r_214_1982, s_214_1985, s_214_1987, s_214_1988, r_214_1988, s_214_1991, s_214_1993, s_214_1996, s_214_1997, s_214_1998, s_214_2000, s_214_2003, s_214_2004, s_214_2005, s_214_2006, s_214_2008, s_214_2009, s_214_2010, s_214_2013, s_214_2014, s_214_2015, jI_mul, jI_add, jI_tnc, jI_ixT, true_and, and_true, bZ_0, bZ_1, bZ_b, jI_nz, jI_div, jI_rem, jI_mod, Nat.add_zero, bI_if, not_false_iff, if_true, if_false, eq_self, m_thrown, a2, u2_lo, lgS, if_true, if_false]
    exact HN _ _ _ _ _ _ _ _ _ ⟨CI_pr (AllG.gd hA1) hC1 a3, a1, hA1⟩ ((a3 SCR (Or.inr SCR_hi)).trans hsc1) (by omega) (by omega)

theorem L_save {s : Nat} (hL : LInv N σ G) (hN : N ≤ 100000000) (hi : i + 4 < Ln) (hLn : Ln ≤ 100000) (hsc : σ SCR = scr) (hk : k ≤ 603000) (hs : s ≤ 7207000) (HN : NXT N Ln i k s scr K) :
    Ev 214 (2018, [.ref SCR, .ref 0, .ref 368, .ref 377, .ref 378, .int (jI i), v6, v7, v8], [], k, s, MM Ln σ lo db) K := by
  obtain ⟨hC, hR, hA⟩ := hL
  have hG := hA.gd
  obtain ⟨⟨g, oh, ng, nd, nc, h⟩, H, sv, y0, d0, c, len, er⟩ := G
  have hS : Snd (g, oh, ng, nd, nc, h) := hA.1.1
  have hh : h ≤ N := hA.1.2
  have hA4 := hA.mono (show N ≤ N + 4000 by omega)
  obtain ⟨hB, hO, hNG, hAC⟩ := Snd_of hS
  have hBa := Bas_of hB hO
  have hB0 := hB
  obtain ⟨b1, b2, b3, b4, b5, b6, b7, b8, b9⟩ := hB
  have n1 : (jI 1 = jI 0) = False := jI_nz (by decide) (by decide)
  have n2 : (jI 2 = jI 0) = False := jI_nz (by decide) (by decide)
  have n3 : (jI 3 = jI 0) = False := jI_nz (by decide) (by decide)
  have hks : k + 1 ≤ 603072 ∧ s + 6 ≤ 7207017 := by omega
  have hks2 : k + 1 + 0 ≤ 603072 ∧ s + 6 + 0 ≤ 7207017 := by omega
  simp (disch := first | assumption | omega) only [s_214_2018, s_214_2019, r_214_2019, s_214_2022, s_214_2023, r_214_2023, s_214_2026, s_214_2029, s_214_2030, jI_mul, jI_add, jI_tnc, jI_ixT, true_and, and_true, bZ_0, bZ_1, bZ_b, jI_nz, jI_div, jI_rem, jI_mod, Nat.add_zero, bI_if, not_false_iff, if_true, if_false, eq_self, hsc]
  refine w_save hG hC (fun σ1 hC1 p1 => ?_)
  · skip
    have hR1 := RI_pc hR p1
    have hsc1 : σ1 SCR = scr := (p1 SCR (by have := SCR_hi; omega)).trans hsc
    have hA1 : AllG (N + 4000) ((g, oh, ng, nd, nc, h), H, some (g, oh, ng, nd, nc, h), y0, d0, c, len, er) := ⟨hA4.1, hA4.2.1, fun t ht => by cases ht; exact hA4.1⟩
    simp (disch := first | assumption | omega) only [s_214_2018, s_214_2019, r_214_2019, s_214_2022, s_214_2023, r_214_2023, s_214_2026, s_214_2029, s_214_2030, jI_mul, jI_add, jI_tnc, jI_ixT, true_and, and_true, bZ_0, bZ_1, bZ_b, jI_nz, jI_div, jI_rem, jI_mod, Nat.add_zero, bI_if, not_false_iff, if_true, if_false, eq_self, hsc1]
    have e9 : σ1 369 = g := (hR1).1
    have e6 : σ1 368 6 = jI H.length := (hR1).2.1.2.1
    have el : H.length ≤ 8 := (hR1).2.1.1
    have e7 : σ1 368 7 = jI 0 := (hR1).2.2.2.2.1
    rw [MM_MG e9]
    refine m_save.mpr ?_
    obtain ⟨a1, a2, a3⟩ := RI_save hR1
    dsimp only at a1 a2 a3
    simp (disch := first | assumption | omega) only [s_214_2018, s_214_2019, r_214_2019, s_214_2022, s_214_2023, r_214_2023, s_214_2026, s_214_2029, s_214_2030, jI_mul, jI_add, jI_tnc, jI_ixT, true_and, and_true, bZ_0, bZ_1, bZ_b, jI_nz, jI_div, jI_rem, jI_mod, Nat.add_zero, bI_if, not_false_iff, if_true, if_false, eq_self, m_thrown, a2, b6, eq_self, if_true, if_false]
    exact HN _ _ _ _ _ _ _ _ _ ⟨CI_pr (AllG.gd hA1) hC1 a3, a1, hA1⟩ ((a3 SCR (Or.inr SCR_hi)).trans hsc1) (by omega) (by omega)

theorem L_restore {s : Nat} (hL : LInv N σ G) (hN : N ≤ 100000000) (hi : i + 4 < Ln) (hLn : Ln ≤ 100000) (hsc : σ SCR = scr) (hk : k ≤ 603000) (hs : s ≤ 7207000) (HN : NXT N Ln i k s scr K) :
    Ev 214 (2031, [.ref SCR, .ref 0, .ref 368, .ref 377, .ref 378, .int (jI i), v6, v7, v8], [], k, s, MM Ln σ lo db) K := by
  obtain ⟨hC, hR, hA⟩ := hL
  have hG := hA.gd
  obtain ⟨⟨g, oh, ng, nd, nc, h⟩, H, sv, y0, d0, c, len, er⟩ := G
  have hS : Snd (g, oh, ng, nd, nc, h) := hA.1.1
  have hh : h ≤ N := hA.1.2
  have hA4 := hA.mono (show N ≤ N + 4000 by omega)
  obtain ⟨hB, hO, hNG, hAC⟩ := Snd_of hS
  have hBa := Bas_of hB hO
  have hB0 := hB
  obtain ⟨b1, b2, b3, b4, b5, b6, b7, b8, b9⟩ := hB
  have n1 : (jI 1 = jI 0) = False := jI_nz (by decide) (by decide)
  have n2 : (jI 2 = jI 0) = False := jI_nz (by decide) (by decide)
  have n3 : (jI 3 = jI 0) = False := jI_nz (by decide) (by decide)
  have hks : k + 1 ≤ 603072 ∧ s + 6 ≤ 7207017 := by omega
  have hks2 : k + 1 + 0 ≤ 603072 ∧ s + 6 + 0 ≤ 7207017 := by omega
  simp (disch := first | assumption | omega) only [s_214_2031, s_214_2032, s_214_2033, r_214_2033, s_214_2036, s_214_2038, s_214_2039, r_214_2039, s_214_2042, s_214_2044, s_214_2045, r_214_2045, s_214_2048, s_214_2050, s_214_2053, s_214_2054, s_214_2055, s_214_2057, s_214_2060, s_214_2061, s_214_2062, s_214_2063, s_214_2065, s_214_2066, s_214_2067, s_214_2070, s_214_2071, s_214_2072, jI_mul, jI_add, jI_tnc, jI_ixT, true_and, and_true, bZ_0, bZ_1, bZ_b, jI_nz, jI_div, jI_rem, jI_mod, Nat.add_zero, bI_if, not_false_iff, if_true, if_false, eq_self, hsc]
  refine w_restore hG hC (fun q => ?_) (fun t ht σ1 hC1 p1 => ?_)
  · skip
    simp (disch := first | assumption | omega) only [s_214_2031, s_214_2032, s_214_2033, r_214_2033, s_214_2036, s_214_2038, s_214_2039, r_214_2039, s_214_2042, s_214_2044, s_214_2045, r_214_2045, s_214_2048, s_214_2050, s_214_2053, s_214_2054, s_214_2055, s_214_2057, s_214_2060, s_214_2061, s_214_2062, s_214_2063, s_214_2065, s_214_2066, s_214_2067, s_214_2070, s_214_2071, s_214_2072, jI_mul, jI_add, jI_tnc, jI_ixT, true_and, and_true, bZ_0, bZ_1, bZ_b, jI_nz, jI_div, jI_rem, jI_mod, Nat.add_zero, bI_if, not_false_iff, if_true, if_false, eq_self, hsc]
    have e9 : σ 369 = g := (hR).1
    have e6 : σ 368 6 = jI H.length := (hR).2.1.2.1
    have el : H.length ≤ 8 := (hR).2.1.1
    have e7 : σ 368 7 = jI 0 := (hR).2.2.2.2.1
    rw [MM_MG e9]
    refine m_restore (sv := sv.isSome) (hR.2.2.1) (fun _ => ?_) (fun hs => by rw [q] at hs; cases hs)
    obtain ⟨a1, a2, a3⟩ := RI_code (v := jI 1) hR
    dsimp only at a1 a2 a3
    simp (disch := first | assumption | omega) only [s_214_2031, s_214_2032, s_214_2033, r_214_2033, s_214_2036, s_214_2038, s_214_2039, r_214_2039, s_214_2042, s_214_2044, s_214_2045, r_214_2045, s_214_2048, s_214_2050, s_214_2053, s_214_2054, s_214_2055, s_214_2057, s_214_2060, s_214_2061, s_214_2062, s_214_2063, s_214_2065, s_214_2066, s_214_2067, s_214_2070, s_214_2071, s_214_2072, jI_mul, jI_add, jI_tnc, jI_ixT, true_and, and_true, bZ_0, bZ_1, bZ_b, jI_nz, jI_div, jI_rem, jI_mod, Nat.add_zero, bI_if, not_false_iff, if_true, if_false, eq_self, m_thrown, a2, n1, if_true, if_false]
    exact HN _ _ _ _ _ _ _ _ _ ⟨CI_pr hG hC a3, a1, hA4⟩ ((a3 SCR (Or.inr SCR_hi)).trans hsc) (by omega) (by omega)
  · skip
    have hR1 := RI_pc hR p1
    have hsc1 : σ1 SCR = scr := (p1 SCR (by have := SCR_hi; omega)).trans hsc
    subst ht
    have hT := hA4.2.2 t rfl
    have hA1 : AllG (N + 4000) (t, [], some t, y0, d0, c, len, er) := by
      refine ⟨hT, ?_, ?_⟩
      · intro u hu; cases hu
      · intro u hu; cases hu; exact hT
    have e4 : σ1 371 4 = jI t.2.2.2.1 := (hR1.2.2.2.1 t rfl 4 (by decide)).trans hT.1.1.2.2.2.2.2.1
    simp (disch := first | assumption | omega) only [s_214_2031, s_214_2032, s_214_2033, r_214_2033, s_214_2036, s_214_2038, s_214_2039, r_214_2039, s_214_2042, s_214_2044, s_214_2045, r_214_2045, s_214_2048, s_214_2050, s_214_2053, s_214_2054, s_214_2055, s_214_2057, s_214_2060, s_214_2061, s_214_2062, s_214_2063, s_214_2065, s_214_2066, s_214_2067, s_214_2070, s_214_2071, s_214_2072, jI_mul, jI_add, jI_tnc, jI_ixT, true_and, and_true, bZ_0, bZ_1, bZ_b, jI_nz, jI_div, jI_rem, jI_mod, Nat.add_zero, bI_if, not_false_iff, if_true, if_false, eq_self, hsc1]
    have e9 : σ1 369 = g := (hR1).1
    have e6 : σ1 368 6 = jI H.length := (hR1).2.1.2.1
    have el : H.length ≤ 8 := (hR1).2.1.1
    have e7 : σ1 368 7 = jI 0 := (hR1).2.2.2.2.1
    rw [MM_MG e9]
    refine m_restore (sv := (some t).isSome) (hR1.2.2.1) (fun hs => by cases hs) (fun _ => ?_)
    rw [e4]
    obtain ⟨a1, a2, a3⟩ := RI_restore hR1 hNG hT.1.2.2.1
    dsimp only at a1 a2 a3
    simp (disch := first | assumption | omega) only [s_214_2031, s_214_2032, s_214_2033, r_214_2033, s_214_2036, s_214_2038, s_214_2039, r_214_2039, s_214_2042, s_214_2044, s_214_2045, r_214_2045, s_214_2048, s_214_2050, s_214_2053, s_214_2054, s_214_2055, s_214_2057, s_214_2060, s_214_2061, s_214_2062, s_214_2063, s_214_2065, s_214_2066, s_214_2067, s_214_2070, s_214_2071, s_214_2072, jI_mul, jI_add, jI_tnc, jI_ixT, true_and, and_true, bZ_0, bZ_1, bZ_b, jI_nz, jI_div, jI_rem, jI_mod, Nat.add_zero, bI_if, not_false_iff, if_true, if_false, eq_self, m_thrown, a2, u2_lo, lgS, if_true, if_false]
    exact HN _ _ _ _ _ _ _ _ _ ⟨CI_pr (AllG.gd hA1) hC1 a3, a1, hA1⟩ ((a3 SCR (Or.inr SCR_hi)).trans hsc1) (by omega) (by omega)

end
