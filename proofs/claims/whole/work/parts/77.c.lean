/-! THE CLASS: the best hour, the input -/
set_option maxRecDepth 16384
section
variable {K : Ou → Me → Prop} {Ln : Nat} {σ σ' : Nat → Nat → Int32} {g : Gr} {lo : Nat → Nat → Int64} {db : Nat → Nat → UInt64} {μ : Me} {oh : Nat → Nat → Bool} {o ng nd nc h i : Nat} {H : List Sy} {sv : Option Sy} {y0 d0 : Int32} {r : (Nat → Nat) × Nat × Int32}
theorem nar_c {c : Nat} (h : c < 65536) : vp_nar .char (jI c) = jI c := by
  show (jI c).toUInt32.toUInt16.toUInt32.toInt32 = jI c
  have e : (jI c).toUInt32.toUInt16.toUInt32 = (jI c).toUInt32 := by
    apply UInt32.toNat_inj.mp
    have : (jI c).toUInt32.toNat = c := by
      show (BitVec.ofNat 32 c).toNat = c
      rw [BitVec.toNat_ofNat]; omega
    rw [UInt16.toNat_toUInt32, UInt32.toNat_toUInt16, this]; omega
  rw [e]
  rfl
theorem i2c_jI (x : Int32) : (x.toUInt32 % 65536).toInt32 = jI (x.toUInt32.toNat % 65536) := by
  apply Int32.toBitVec_inj.mp
  apply BitVec.eq_of_toNat_eq
  show (x.toUInt32 % 65536).toNat = (BitVec.ofNat 32 (x.toUInt32.toNat % 65536)).toNat
  rw [UInt32.toNat_mod, BitVec.toNat_ofNat, show (65536 : UInt32).toNat = 65536 from rfl]
  omega
def cU (c : Nat → Nat) (n v : Nat) : Nat → Nat := fun k => if k = n then v else c k
theorem w_append {s : Sy} {cv : Nat} {c : Nat → Nat} {len : Nat} {er : Int32} (hcv : cv < 65536) (hG : Gd (s, H, sv, y0, d0, c, len, er)) (hC : CI σ (s, H, sv, y0, d0, c, len, er)) (F : len = 60 → K (.inl (some (.int (jI 1)))) (MM Ln σ lo db))
    (HH : len < 60 → ∀ σ', CI σ' (s, H, sv, y0, d0, cU c len cv, len + 1, er) → PC σ σ' → K (.inl (some (.int (jI 0)))) (MM Ln σ' (u2 lo 377 0 (jI (len + 1)).toInt64) db)) :
    Ev 206 (0, [.ref 0, .int (jI cv), .ref 377, .null], [], 0, 0, MM Ln σ lo db) K := by
  have hC0 := hC
  obtain ⟨c1, c2, c3, c4, c5, c6, ⟨i1, i2, i3⟩, c8⟩ := hC
  dsimp only at c1 c2 c3 c4 c5 c6 i1 i2 i3 c8
  by_cases q : len < 60
  · have n0 : (jI len < jI 60) = True := jI_ltT (by omega) (by omega) q
    have n1 : (jI 60 ≤ jI len) = False := eq_false (by rw [jI_le (by omega) (by omega)]; omega)
    have e1 : ∀ v, u2 σ 345 len v 344 2 = jI len := fun v => (u2_na (by decide)).trans i2
    have e2 : ∀ v w, u2 (u2 σ 345 len v) 344 2 w 344 2 = w := fun v w => u2_at
    simp (disch := first | assumption | omega) only [s_206_0, s_206_1, s_206_2, s_206_3, s_206_4, r_206_4, rt_206_4_4, s_206_7, s_206_8, s_206_9, s_206_13, s_206_14, s_206_15, s_206_16, s_94_0, s_94_1, s_94_4, s_94_7, s_94_9, s_94_12, s_94_23, s_94_24, s_94_27, s_94_28, r_94_28, s_94_31, s_94_32, s_94_35, s_94_38, s_64_0, s_64_1, s_64_4, s_64_6, s_64_9, s_64_10, s_64_13, s_64_14, s_64_17, s_64_18, s_64_19, s_64_20, s_64_21, s_64_24, s_64_25, s_64_26, s_64_29, jI_mul, jI_add, jI_tnc, jI_ixT, true_and, and_true, bZ_0, bZ_1, bZ_b, jI_nz, jI_div, jI_rem, jI_mod, Nat.add_zero, bI_if, not_false_iff, if_true, if_false, eq_self, i2, n0, n1, if_true, if_false, nar_c, e1, e2]
    have hm : ∀ a, a ≠ 344 → a ≠ 345 → u2 (u2 σ 345 len (jI cv)) 344 2 (jI (len + 1)) a = σ a := fun a h1 h2 => by funext k; rw [u2_na h1, u2_na h2]
    obtain ⟨d1, d2, d3⟩ := hG
    obtain ⟨p, p1, p2, p3, p4, p5⟩ := c2
    refine HH q _ ⟨RDs_cg d1 c1 (fun a h1 h2 => hm a (by omega) (by omega)), ⟨p, p1, p2, ?_, ?_, fun j t hj => ?_⟩, ?_, fun t ht => ?_, ?_, ?_, ⟨?_, ?_, fun k hk => ?_⟩, ?_⟩ (fun a ha => hm a (by omega) (by omega))
    · rw [hm 94 (by decide) (by decide)]; exact p3
    · rw [hm 94 (by decide) (by decide)]; exact p4
    · have hb := kD_b (i := (p + 7 - j) % 8) (by omega)
      exact RDs_cg (d2 t (List.mem_of_getElem? hj)) (p5 j t hj) (fun a h1 h2 => hm a (by omega) (by omega))
    · rw [hm 0 (by decide) (by decide)]; exact c3
    · exact RDs_cg (d3 t ht) (c4 t ht) (fun a h1 h2 => hm a (by omega) (by omega))
    · rw [hm 367 (by decide) (by decide)]; exact c5
    · rw [hm 367 (by decide) (by decide)]; exact c6
    · dsimp only; omega
    · exact u2_at
    · dsimp only at hk ⊢
      unfold cU
      by_cases hkl : k = len
      · subst hkl
        rw [if_pos rfl, u2_na (by decide), u2_at]
        exact ⟨rfl, hcv⟩
      · rw [if_neg hkl, u2_na (by decide), u2_nk hkl]
        exact i3 k (by omega)
    · rw [hm 0 (by decide) (by decide)]; exact c8
  · have n0 : (jI len < jI 60) = False := eq_false (by rw [jI_lt (by omega) (by omega)]; omega)
    simp (disch := first | assumption | omega) only [s_206_0, s_206_1, s_206_2, s_206_3, s_206_4, r_206_4, rt_206_4_4, s_206_7, s_206_8, s_206_9, s_206_13, s_206_14, s_206_15, s_206_16, s_94_0, s_94_1, s_94_4, s_94_7, s_94_9, s_94_12, s_94_23, s_94_24, s_94_27, s_94_28, r_94_28, s_94_31, s_94_32, s_94_35, s_94_38, jI_mul, jI_add, jI_tnc, jI_ixT, true_and, and_true, bZ_0, bZ_1, bZ_b, jI_nz, jI_div, jI_rem, jI_mod, Nat.add_zero, bI_if, not_false_iff, if_true, if_false, eq_self, i2, n0, if_false]
    exact F (by omega)
/-- what a gate took grows by numbers -/
theorem dwn_took {k hw : Nat} {z : Gr × Int32} {w i : Nat} (hng : ng ≤ 6) (hnd : nd ≤ 12) (hQ : QI z.1 ng nd nc) (hi : i < ng) (hk : k < ng) (hw1 : w < 100000) (e : z.2 = jI w) : ∃ t, t ≤ 60 ∧ (dwnStep oh hw nd i z).1 (15 + 10 * k + 2) = z.1 (15 + 10 * k + 2) + jI t ∧ (i ≠ k → t = 0) := by
  obtain ⟨l, hl, e1⟩ := (QC_l hng hi).mp (hQ (15 + 10 * i + 1))
  obtain ⟨wd, hwd, e2⟩ := (QC_w hng hi).mp (hQ (15 + 10 * i))
  have hwl : w * l ≤ w * 50 := Nat.mul_le_mul_left _ hl
  have elk : (z.2 * z.1 (15 + 10 * i + 1) + jI 99) / jI 100 = jI ((w * l + 99) / 100) := by
    rw [e, e1, jI_mul, jI_add, jI_div (by omega) (by omega)]
  have hlk : (w * l + 99) / 100 ≤ w := by omega
  by_cases ho : oh i hw = true
  · rw [dwn_eq (by omega) hnd ho]
    dsimp only
    rw [elk, e, jI_sub hlk]
    generalize (w * l + 99) / 100 = lk at *
    have emn : mn (gu z.1 8 (z.1 8 + jI lk) (15 + 10 * i)) (jI (w - lk)) = jI (min wd (w - lk)) := by
      rw [gu_ne (by omega), e2, mn_jI (by omega) (by omega)]
    rw [emn]
    by_cases hik : i = k
    · subst hik
      refine ⟨min wd (w - lk), by omega, ?_, fun q => absurd rfl q⟩
      rw [gu_ne (by omega), gu_at, watN_lo (by omega) (by omega)]
      dsimp only
      rw [gu_ne (by omega)]
    · refine ⟨0, by omega, ?_, fun _ => rfl⟩
      rw [gu_ne (by omega), gu_ne (by omega), watN_lo (by omega) (by omega)]
      dsimp only
      rw [gu_ne (by omega)]
      exact (Int32.add_zero _).symm
  · rw [dwn_no ho]
    refine ⟨0, by omega, ?_, fun _ => rfl⟩
    dsimp only
    rw [gu_ne (by omega)]
    exact (Int32.add_zero _).symm
theorem dwnN_took {k hw w : Nat} {z : Gr × Int32} (hng : ng ≤ 6) (hnd : nd ≤ 12) (hQ : QI z.1 ng nd nc) (hk : k < ng) (hw1 : w < 100000) (e : z.2 = jI w) : ∀ n, n ≤ ng → ∃ t, t ≤ 60 ∧ (itN n (dwnStep oh hw nd) z).1 (15 + 10 * k + 2) = z.1 (15 + 10 * k + 2) + jI t ∧ (n ≤ k → t = 0)
  | 0, _ => ⟨0, by omega, (Int32.add_zero _).symm, fun _ => rfl⟩
  | n + 1, hn => by
    obtain ⟨t1, w1, q1, f1⟩ := dwnN_ty (oh := oh) (hw := hw) hng hnd hQ hw1 e n (by omega)
    obtain ⟨t, ht, e1, hz⟩ := dwnN_took (hw := hw) hng hnd hQ hk hw1 e n (by omega)
    obtain ⟨t', ht', e2, hz'⟩ := dwn_took (oh := oh) (hw := hw) hng hnd t1 (i := n) (k := k) (by omega) hk (w := w1) (by omega) f1
    rw [itN_succ, e2, e1, Int32.add_assoc, jI_add]
    by_cases hnk : n = k
    · have := hz (by omega)
      exact ⟨t + t', by omega, rfl, fun q => by omega⟩
    · have := hz' hnk
      exact ⟨t + t', by omega, rfl, fun q => by have := hz (by omega); omega⟩
theorem hour_took {k : Nat} (hB : Cb g ng nd nc h) (hh : h < 2147483647) (hk : k < ng) : ∃ t, t ≤ 60 ∧ hourS oh ng nd nc h g (15 + 10 * k + 2) = g (15 + 10 * k + 2) + jI t := by
  have k1 := hw1_ok hB
  obtain ⟨k4, k4'⟩ := hw4_ok (oh := oh) hB hh
  have hB0 := hB
  obtain ⟨hng, hnd, hnc, b4, b5, b6, b7, ⟨wi, hwi, b8⟩, b9⟩ := hB
  have e1 : gu (hw1 g nd h) 7 (hw1 g nd h 7 + hw1 g nd h 1) 1 = jI wi := by
    rw [gu_ne (by decide), k1.2 1 (by unfold hwF; omega)]; exact b8
  obtain ⟨t, ht, e2, -⟩ := dwnN_took (oh := oh) (hw := h % 168) (z := (gu (hw1 g nd h) 7 (hw1 g nd h 7 + hw1 g nd h 1), gu (hw1 g nd h) 7 (hw1 g nd h 7 + hw1 g nd h 1) 1)) hng hnd (QI_o k1.1 (by omega)) hk (w := wi) (by omega) e1 ng (Nat.le_refl _)
  have a1 : hw1 g nd h (15 + 10 * k + 2) = g (15 + 10 * k + 2) := by
    unfold hw1
    split
    · rfl
    · exact thrS_fx (by omega) hnd
  have a2 : (hw2 oh g ng nd h).1 (15 + 10 * k + 2) = g (15 + 10 * k + 2) + jI t := by
    refine e2.trans ?_
    dsimp only
    rw [gu_ne (by omega), a1]
  have a3 : (hw3 oh g ng nd h).1 (15 + 10 * k + 2) = g (15 + 10 * k + 2) + jI t := by
    unfold hw3
    split
    · rw [thvN_fx (by omega) (by omega)]; exact a2
    · exact a2
  have a4 : hw4 oh g ng nd h (15 + 10 * k + 2) = g (15 + 10 * k + 2) + jI t := by
    unfold hw4
    rw [gu_ne (by omega)]; exact a3
  have a5 : hw5 oh g ng nd nc h (15 + 10 * k + 2) = g (15 + 10 * k + 2) + jI t := by
    unfold hw5
    split
    · rw [hrAll_lo (CPL_of hng hnd k4) (by omega)]; exact a4
    · exact a4
  refine ⟨t, ht, ?_⟩
  rw [hour_hw, gu_ne (by omega)]
  unfold hw6
  split
  · rw [lkS_o (by omega) hng]; exact a5
  · exact a5
theorem hours_took {k : Nat} (hB : Cb g ng nd nc h) (hk : k < ng) : ∀ n, h + n < 2147483647 → ∃ t, t ≤ 60 * n ∧ (hoursS oh ng nd nc h g n).1 (15 + 10 * k + 2) = g (15 + 10 * k + 2) + jI t
  | 0, _ => ⟨0, by omega, (Int32.add_zero _).symm⟩
  | n + 1, hn => by
    obtain ⟨t, ht, e1⟩ := hours_took hB hk n (by omega)
    obtain ⟨t', ht', e2⟩ := hour_took (oh := oh) (hoursS_cb (oh := oh) hB n (by omega)) (by omega) hk
    refine ⟨t + t', by omega, ?_⟩
    show hourS oh ng nd (hoursS oh ng nd nc h g n).2 (h + n) (hoursS oh ng nd nc h g n).1 (15 + 10 * k + 2) = _
    rw [e2, e1, Int32.add_assoc, jI_add]
theorem bhT_ty {k i : Nat} (hB : Cb g ng nd nc h) (hh : h < 1000000000) (hk : k < ng) : ∃ t, t ≤ 1440 ∧ bhT oh ng nd nc h g k i = jI t := by
  have hng := hB.1
  have hx : (h + i) % 168 < 168 := Nat.mod_lt _ (by decide)
  obtain ⟨t, ht, e⟩ := hours_took (oh := ohU oh k ((h + i) % 168) true) (opS_cb (k := k) (x := (h + i) % 168) (p := true) hB (by omega) hx) hk 24 (by omega)
  refine ⟨t, by omega, ?_⟩
  unfold bhT
  rw [e, Int32.add_comm, Int32.add_sub_cancel]
def bhC (z : Option Nat) : Int32 := match z with
  | none => jm1
  | some i => jI i
def bhM (z : Option Nat × Int32) : Int32 := match z.1 with
  | none => jm1
  | some _ => z.2
theorem w_bestHour {v : Int32} (hh : h < 1000000000) (hG : Gd ((g, oh, ng, nd, nc, h), H, sv, y0, d0, r)) (hC : CI σ ((g, oh, ng, nd, nc, h), H, sv, y0, d0, r)) (F1 : ¬ hs v ng → K (.inl (some (.int (jI 1)))) (MM Ln σ lo db))
    (F2 : ∀ k, k < ng → v = jI k → (bhN oh ng nd nc h g k 24).1 = none → ∀ σ', CI σ' ((g, oh, ng, nd, nc, h), H, sv, y0, d0, r) → PC σ σ' → K (.inl (some (.int (jI 2)))) (MM Ln σ' lo db))
    (HH : ∀ k i, k < ng → v = jI k → (bhN oh ng nd nc h g k 24).1 = some i → ∀ σ', CI σ' ((g, oh, ng, nd, nc, h), H, sv, y0, d0, r) → PC σ σ' → K (.inl (some (.int (jI 0)))) (MM Ln σ' (u2 lo 377 0 (jI (h + i)).toInt64) db)) :
    Ev 205 (0, [.ref 0, .int v, .ref 377, .null], [], 0, 0, MM Ln σ lo db) K := by
  have hD1 := DI_1
  have hD32 := DI_32
  have hB : Cb g ng nd nc h := hG.1
  have hB0 := hB
  obtain ⟨hng, hnd, hnc, b4, b5, b6, b7, b8, hQ⟩ := hB
  have hR : LD σ 1 g ng nd nc = σ := hC.1.1
  rw [MM_LD hR]
  simp (disch := first | assumption | omega) only [s_205_0, s_205_1, s_205_2, s_205_3, s_205_4, r_205_4, rt_205_4_2, rt_205_4_3, s_205_7, s_205_8, s_205_9, s_205_13, s_205_14, s_205_16, s_205_17, s_205_18, s_205_19, s_93_0, s_93_1, s_93_4, s_93_5, r_93_5, s_93_8, s_93_11, s_93_21, s_93_22, s_93_23, s_93_24, s_93_25, s_93_26, s_93_30, s_93_32, s_93_35, s_93_36, s_93_39, s_93_42, s_93_44, s_93_45, s_93_47, s_93_48, s_93_51, s_93_54, s_93_55, s_93_56, s_93_58, r_93_58, s_93_61, s_93_64, s_93_65, s_93_68, s_93_69, s_93_72, r_93_72, s_93_75, s_93_76, s_93_79, s_93_82, s_93_83, s_93_84, s_93_86, s_93_87, r_93_87, s_93_90, s_93_91, s_93_94, s_93_95, s_93_97, r_93_97, s_93_100, s_93_102, s_93_104, s_93_105, s_93_108, s_93_110, s_93_111, s_93_113, s_93_114, s_93_117, s_93_120, s_93_121, s_93_122, s_93_125, s_93_136, s_93_137, s_93_140, s_93_143, s_93_144, s_93_145, jI_mul, jI_add, jI_tnc, jI_ixT, true_and, and_true, bZ_0, bZ_1, bZ_b, jI_nz, jI_div, jI_rem, jI_mod, Nat.add_zero, bI_if, not_false_iff, if_true, if_false, eq_self, c_hasG]
  by_cases q : hs v ng
  · obtain ⟨k, hk, rfl⟩ := hs_of q (by omega)
    rw [if_pos q, hR]
    have F2 := F2 k hk rfl
    have HH := fun i => HH k i hk rfl
    have hlt : ∀ n, n ≤ 24 → ∀ i, (bhN oh ng nd nc h g k n).1 = some i → i < n := by
      intro n
      induction n with
      | zero => intro _ i e; cases e
      | succ n ih =>
        intro hn i e
        have en : bhN oh ng nd nc h g k (n + 1) = bhStep oh ng nd nc h g k n (bhN oh ng nd nc h g k n) := rfl
        rw [en] at e
        unfold bhStep at e
        split at e
        · have := ih (by omega) i e; omega
        · split at e
          · have := ih (by omega) i e; omega
          · cases e; omega
    try simp (disch := first | assumption | omega) only [s_205_0, s_205_1, s_205_2, s_205_3, s_205_4, r_205_4, rt_205_4_2, rt_205_4_3, s_205_7, s_205_8, s_205_9, s_205_13, s_205_14, s_205_16, s_205_17, s_205_18, s_205_19, s_93_0, s_93_1, s_93_4, s_93_5, r_93_5, s_93_8, s_93_11, s_93_21, s_93_22, s_93_23, s_93_24, s_93_25, s_93_26, s_93_30, s_93_32, s_93_35, s_93_36, s_93_39, s_93_42, s_93_44, s_93_45, s_93_47, s_93_48, s_93_51, s_93_54, s_93_55, s_93_56, s_93_58, r_93_58, s_93_61, s_93_64, s_93_65, s_93_68, s_93_69, s_93_72, r_93_72, s_93_75, s_93_76, s_93_79, s_93_82, s_93_83, s_93_84, s_93_86, s_93_87, r_93_87, s_93_90, s_93_91, s_93_94, s_93_95, s_93_97, r_93_97, s_93_100, s_93_102, s_93_104, s_93_105, s_93_108, s_93_110, s_93_111, s_93_113, s_93_114, s_93_117, s_93_120, s_93_121, s_93_122, s_93_125, s_93_136, s_93_137, s_93_140, s_93_143, s_93_144, s_93_145, jI_mul, jI_add, jI_tnc, jI_ixT, true_and, and_true, bZ_0, bZ_1, bZ_b, jI_nz, jI_div, jI_rem, jI_mod, Nat.add_zero, bI_if, not_false_iff, if_true, if_false, eq_self]
    have same : ∀ τ : Nat → Nat → Int32, Fout 32 σ τ → CI τ ((g, oh, ng, nd, nc, h), H, sv, y0, d0, r) ∧ PC σ τ := fun τ f => ⟨CI_same hG hC (fun a ha => f a (by omega)), fun a ha => f a (by omega)⟩
    refine lup0 24 (fun i x => ∃ τ s5 s6, x = (28, [.ref 0, .int (jI k), .int (bhC (bhN oh ng nd nc h g k i).1), .int (bhM (bhN oh ng nd nc h g k i)), .int (jI i), s5, s6], [], 0, 0, MM Ln τ lo db) ∧ Fout 32 σ τ) ⟨_, _, _, rfl, fun _ _ => rfl⟩ ?_ ?_
    · rintro i x hi ⟨τ, s5, s6, rfl, f1⟩ hn
      have hCI := (same τ f1).1
      have tR : LD τ 1 g ng nd nc = τ := hCI.1.1
      have tO : OHc τ 1 ng oh := hCI.1.2
      have en : bhN oh ng nd nc h g k (i + 1) = bhStep oh ng nd nc h g k i (bhN oh ng nd nc h g k i) := rfl
      have hx : (h + i) % 168 < 168 := Nat.mod_lt _ (by decide)
      rw [en] at hn
      generalize bhN oh ng nd nc h g k i = z at *
      unfold bhStep at hn
      rw [s_93_28, MM_LD tR]
      simp (disch := first | assumption | omega) only [s_205_0, s_205_1, s_205_2, s_205_3, s_205_4, r_205_4, rt_205_4_2, rt_205_4_3, s_205_7, s_205_8, s_205_9, s_205_13, s_205_14, s_205_16, s_205_17, s_205_18, s_205_19, s_93_0, s_93_1, s_93_4, s_93_5, r_93_5, s_93_8, s_93_11, s_93_21, s_93_22, s_93_23, s_93_24, s_93_25, s_93_26, s_93_30, s_93_32, s_93_35, s_93_36, s_93_39, s_93_42, s_93_44, s_93_45, s_93_47, s_93_48, s_93_51, s_93_54, s_93_55, s_93_56, s_93_58, r_93_58, s_93_61, s_93_64, s_93_65, s_93_68, s_93_69, s_93_72, r_93_72, s_93_75, s_93_76, s_93_79, s_93_82, s_93_83, s_93_84, s_93_86, s_93_87, r_93_87, s_93_90, s_93_91, s_93_94, s_93_95, s_93_97, r_93_97, s_93_100, s_93_102, s_93_104, s_93_105, s_93_108, s_93_110, s_93_111, s_93_113, s_93_114, s_93_117, s_93_120, s_93_121, s_93_122, s_93_125, s_93_136, s_93_137, s_93_140, s_93_143, s_93_144, s_93_145, jI_mul, jI_add, jI_tnc, jI_ixT, true_and, and_true, bZ_0, bZ_1, bZ_b, jI_nz, jI_div, jI_rem, jI_mod, Nat.add_zero, bI_if, not_false_iff, if_true, if_false, eq_self, LD_s6, LD_s7, LD_s8, LD_s9, LD_s10, LD_s11, LD_s12, LD_b0, LD_b1, LD_b2, LD_b3, LD_b4, LD_b5, LD_b6, LD_b7, LD_g1, LD_g2, LD_g3, LD_g4, LD_n0, LD_n1, LD_n2, LD_n3, LD_n4, LD_n5, LD_n6, LD_n7, LD_n8, LD_cp, LD_ac, LD_or, LD_oh, b4, jI_le]
      rw [if_neg (by omega)]
      refine (c_openIn hD1 hng hk tO (by omega)).mpr ?_
      rw [tR]
      by_cases ho : oh k ((h + i) % 168) = true
      · simp only [if_pos ho] at hn
        simp (disch := first | assumption | omega) only [s_205_0, s_205_1, s_205_2, s_205_3, s_205_4, r_205_4, rt_205_4_2, rt_205_4_3, s_205_7, s_205_8, s_205_9, s_205_13, s_205_14, s_205_16, s_205_17, s_205_18, s_205_19, s_93_0, s_93_1, s_93_4, s_93_5, r_93_5, s_93_8, s_93_11, s_93_21, s_93_22, s_93_23, s_93_24, s_93_25, s_93_26, s_93_30, s_93_32, s_93_35, s_93_36, s_93_39, s_93_42, s_93_44, s_93_45, s_93_47, s_93_48, s_93_51, s_93_54, s_93_55, s_93_56, s_93_58, r_93_58, s_93_61, s_93_64, s_93_65, s_93_68, s_93_69, s_93_72, r_93_72, s_93_75, s_93_76, s_93_79, s_93_82, s_93_83, s_93_84, s_93_86, s_93_87, r_93_87, s_93_90, s_93_91, s_93_94, s_93_95, s_93_97, r_93_97, s_93_100, s_93_102, s_93_104, s_93_105, s_93_108, s_93_110, s_93_111, s_93_113, s_93_114, s_93_117, s_93_120, s_93_121, s_93_122, s_93_125, s_93_136, s_93_137, s_93_140, s_93_143, s_93_144, s_93_145, jI_mul, jI_add, jI_tnc, jI_ixT, true_and, and_true, bZ_0, bZ_1, bZ_b, jI_nz, jI_div, jI_rem, jI_mod, Nat.add_zero, bI_if, not_false_iff, if_true, if_false, eq_self, bI_if, ho, if_true]
        exact hn _ ⟨_, _, _, rfl, f1⟩
      · simp only [if_neg ho] at hn
        simp (disch := first | assumption | omega) only [s_205_0, s_205_1, s_205_2, s_205_3, s_205_4, r_205_4, rt_205_4_2, rt_205_4_3, s_205_7, s_205_8, s_205_9, s_205_13, s_205_14, s_205_16, s_205_17, s_205_18, s_205_19, s_93_0, s_93_1, s_93_4, s_93_5, r_93_5, s_93_8, s_93_11, s_93_21, s_93_22, s_93_23, s_93_24, s_93_25, s_93_26, s_93_30, s_93_32, s_93_35, s_93_36, s_93_39, s_93_42, s_93_44, s_93_45, s_93_47, s_93_48, s_93_51, s_93_54, s_93_55, s_93_56, s_93_58, r_93_58, s_93_61, s_93_64, s_93_65, s_93_68, s_93_69, s_93_72, r_93_72, s_93_75, s_93_76, s_93_79, s_93_82, s_93_83, s_93_84, s_93_86, s_93_87, r_93_87, s_93_90, s_93_91, s_93_94, s_93_95, s_93_97, r_93_97, s_93_100, s_93_104, s_93_105, s_93_108, s_93_110, s_93_111, s_93_113, s_93_114, s_93_117, s_93_120, s_93_121, s_93_122, s_93_125, s_93_136, s_93_137, s_93_140, s_93_143, s_93_144, s_93_145, jI_mul, jI_add, jI_tnc, jI_ixT, true_and, and_true, bZ_0, bZ_1, bZ_b, jI_nz, jI_div, jI_rem, jI_mod, Nat.add_zero, bI_if, not_false_iff, if_true, if_false, eq_self, bI_if, ho, if_false]
        refine c_copy (o1 := 32) (o2 := 1) hD32 hD1 (by decide) hCI.1 hB0 (fun τ1 t1 f2 => ?_)
        rw [MM_LD t1.1]
        simp (disch := first | assumption | omega) only [s_205_0, s_205_1, s_205_2, s_205_3, s_205_4, r_205_4, rt_205_4_2, rt_205_4_3, s_205_7, s_205_8, s_205_9, s_205_13, s_205_14, s_205_16, s_205_17, s_205_18, s_205_19, s_93_0, s_93_1, s_93_4, s_93_5, r_93_5, s_93_8, s_93_11, s_93_21, s_93_22, s_93_23, s_93_24, s_93_25, s_93_26, s_93_30, s_93_32, s_93_35, s_93_36, s_93_39, s_93_42, s_93_44, s_93_45, s_93_47, s_93_48, s_93_51, s_93_54, s_93_55, s_93_56, s_93_58, r_93_58, s_93_61, s_93_64, s_93_65, s_93_68, s_93_69, s_93_72, r_93_72, s_93_75, s_93_76, s_93_79, s_93_82, s_93_83, s_93_84, s_93_86, s_93_87, r_93_87, s_93_90, s_93_91, s_93_94, s_93_95, s_93_97, r_93_97, s_93_100, s_93_104, s_93_105, s_93_108, s_93_110, s_93_111, s_93_113, s_93_114, s_93_117, s_93_120, s_93_121, s_93_122, s_93_125, s_93_136, s_93_137, s_93_140, s_93_143, s_93_144, s_93_145, jI_mul, jI_add, jI_tnc, jI_ixT, true_and, and_true, bZ_0, bZ_1, bZ_b, jI_nz, jI_div, jI_rem, jI_mod, Nat.add_zero, bI_if, not_false_iff, if_true, if_false, eq_self, c_setT]
        have eg : LD (shH τ1 (ohA 32 k) ((h + i) % 168) true) 32 g ng nd nc = LD (shH τ1 (ohA 32 k) ((h + i) % 168) true) 32 (opS g k ((h + i) % 168) true) ng nd nc := (LD_cg (fun j hj => opS_o (by omega))).symm
        rw [eg]
        refine c_take (oh := ohU oh k ((h + i) % 168) true) hD32 hk (by decide) (opS_cb hB0 (by omega) hx) (by omega) (OHc_set hk hng hx t1.2) (fun τ2 f3 => ?_)
        simp (disch := first | assumption | omega) only [s_205_0, s_205_1, s_205_2, s_205_3, s_205_4, r_205_4, rt_205_4_2, rt_205_4_3, s_205_7, s_205_8, s_205_9, s_205_13, s_205_14, s_205_16, s_205_17, s_205_18, s_205_19, s_93_0, s_93_1, s_93_4, s_93_5, r_93_5, s_93_8, s_93_11, s_93_21, s_93_22, s_93_23, s_93_24, s_93_25, s_93_26, s_93_30, s_93_32, s_93_35, s_93_36, s_93_39, s_93_42, s_93_44, s_93_45, s_93_47, s_93_48, s_93_51, s_93_54, s_93_55, s_93_56, s_93_58, r_93_58, s_93_61, s_93_64, s_93_65, s_93_68, s_93_69, s_93_72, r_93_72, s_93_75, s_93_76, s_93_79, s_93_82, s_93_83, s_93_84, s_93_86, s_93_87, r_93_87, s_93_90, s_93_91, s_93_94, s_93_95, s_93_97, r_93_97, s_93_100, s_93_104, s_93_105, s_93_108, s_93_110, s_93_111, s_93_113, s_93_114, s_93_117, s_93_120, s_93_121, s_93_122, s_93_125, s_93_136, s_93_137, s_93_140, s_93_143, s_93_144, s_93_145, jI_mul, jI_add, jI_tnc, jI_ixT, true_and, and_true, bZ_0, bZ_1, bZ_b, jI_nz, jI_div, jI_rem, jI_mod, Nat.add_zero, bI_if, not_false_iff, if_true, if_false, eq_self]
        have hT : (hoursS (ohU oh k ((h + i) % 168) true) ng nd nc h (opS g k ((h + i) % 168) true) 24).1 (15 + 10 * k + 2) - opS g k ((h + i) % 168) true (15 + 10 * k + 2) = bhT oh ng nd nc h g k i := rfl
        rw [hT]
        obtain ⟨t, ht, eT⟩ := bhT_ty (oh := oh) (i := i) hB0 hh hk
        rw [eT] at hn ⊢
        have f4 : Fout 32 σ (LD τ2 32 (hoursS (ohU oh k ((h + i) % 168) true) ng nd nc h (opS g k ((h + i) % 168) true) 24).1 ng nd (hoursS (ohU oh k ((h + i) % 168) true) ng nd nc h (opS g k ((h + i) % 168) true) 24).2) :=
          Fout.ld hng hnd (fun a ha => (f3.1 a ha).trans ((shH_o (by unfold ohA; omega)).trans ((f2 a ha).trans (f1 a ha))))
        generalize LD τ2 32 (hoursS (ohU oh k ((h + i) % 168) true) ng nd nc h (opS g k ((h + i) % 168) true) 24).1 ng nd (hoursS (ohU oh k ((h + i) % 168) true) ng nd nc h (opS g k ((h + i) % 168) true) 24).2 = τ3 at *
        rw [s_93_102]
        rcases z with ⟨b, most⟩
        cases b with
        | none =>
          have q1 : (jI t ≤ jm1) = False := eq_false (fun e => by
            rw [Int32.le_iff_toInt_le, jI_toInt (by omega), show jm1.toInt = -1 from rfl] at e
            omega)
          simp only [bhM, s_205_0, s_205_1, s_205_2, s_205_3, s_205_4, r_205_4, rt_205_4_2, rt_205_4_3, s_205_7, s_205_8, s_205_9, s_205_13, s_205_14, s_205_16, s_205_17, s_205_18, s_205_19, s_93_0, s_93_1, s_93_4, s_93_5, r_93_5, s_93_8, s_93_11, s_93_21, s_93_22, s_93_23, s_93_24, s_93_25, s_93_26, s_93_30, s_93_32, s_93_35, s_93_36, s_93_39, s_93_42, s_93_44, s_93_45, s_93_47, s_93_48, s_93_51, s_93_54, s_93_55, s_93_56, s_93_58, r_93_58, s_93_61, s_93_64, s_93_65, s_93_68, s_93_69, s_93_72, r_93_72, s_93_75, s_93_76, s_93_79, s_93_82, s_93_83, s_93_84, s_93_86, s_93_87, r_93_87, s_93_90, s_93_91, s_93_94, s_93_95, s_93_97, r_93_97, s_93_100, s_93_104, s_93_105, s_93_108, s_93_110, s_93_111, s_93_113, s_93_114, s_93_117, s_93_120, s_93_121, s_93_122, s_93_125, s_93_136, s_93_137, s_93_140, s_93_143, s_93_144, s_93_145, jI_mul, jI_add, jI_tnc, jI_ixT, true_and, and_true, bZ_0, bZ_1, bZ_b, jI_nz, jI_div, jI_rem, jI_mod, Nat.add_zero, bI_if, not_false_iff, if_true, if_false, eq_self, q1, if_false]
          simp only [Option.isSome_none, Bool.false_eq_true, false_and, if_false] at hn
          exact hn _ ⟨_, _, _, rfl, f4⟩
        | some b =>
          simp only [bhM, s_205_0, s_205_1, s_205_2, s_205_3, s_205_4, r_205_4, rt_205_4_2, rt_205_4_3, s_205_7, s_205_8, s_205_9, s_205_13, s_205_14, s_205_16, s_205_17, s_205_18, s_205_19, s_93_0, s_93_1, s_93_4, s_93_5, r_93_5, s_93_8, s_93_11, s_93_21, s_93_22, s_93_23, s_93_24, s_93_25, s_93_26, s_93_30, s_93_32, s_93_35, s_93_36, s_93_39, s_93_42, s_93_44, s_93_45, s_93_47, s_93_48, s_93_51, s_93_54, s_93_55, s_93_56, s_93_58, r_93_58, s_93_61, s_93_64, s_93_65, s_93_68, s_93_69, s_93_72, r_93_72, s_93_75, s_93_76, s_93_79, s_93_82, s_93_83, s_93_84, s_93_86, s_93_87, r_93_87, s_93_90, s_93_91, s_93_94, s_93_95, s_93_97, r_93_97, s_93_100, s_93_104, s_93_105, s_93_108, s_93_110, s_93_111, s_93_113, s_93_114, s_93_117, s_93_120, s_93_121, s_93_122, s_93_125, s_93_136, s_93_137, s_93_140, s_93_143, s_93_144, s_93_145, jI_mul, jI_add, jI_tnc, jI_ixT, true_and, and_true, bZ_0, bZ_1, bZ_b, jI_nz, jI_div, jI_rem, jI_mod, Nat.add_zero, bI_if, not_false_iff, if_true, if_false, eq_self]
          simp only [Option.isSome_some, true_and] at hn
          by_cases hm : jI t ≤ most
          · rw [if_pos hm]
            simp only [if_pos hm] at hn
            exact hn _ ⟨_, _, _, rfl, f4⟩
          · rw [if_neg hm]
            simp only [if_neg hm] at hn
            exact hn _ ⟨_, _, _, rfl, f4⟩
    · rintro x ⟨τ, s5, s6, rfl, f1⟩
      have hCI := (same τ f1).1
      have tR : LD τ 1 g ng nd nc = τ := hCI.1.1
      have hl := hlt 24 (by omega)
      rw [s_93_28]
      simp (disch := first | assumption | omega) only [s_205_0, s_205_1, s_205_2, s_205_3, s_205_4, r_205_4, rt_205_4_2, rt_205_4_3, s_205_7, s_205_8, s_205_9, s_205_13, s_205_14, s_205_16, s_205_17, s_205_18, s_205_19, s_93_0, s_93_1, s_93_4, s_93_5, r_93_5, s_93_8, s_93_11, s_93_21, s_93_22, s_93_23, s_93_24, s_93_25, s_93_26, s_93_30, s_93_32, s_93_35, s_93_36, s_93_39, s_93_42, s_93_44, s_93_45, s_93_47, s_93_48, s_93_51, s_93_54, s_93_55, s_93_56, s_93_58, r_93_58, s_93_61, s_93_64, s_93_65, s_93_68, s_93_69, s_93_72, r_93_72, s_93_75, s_93_76, s_93_79, s_93_82, s_93_83, s_93_84, s_93_86, s_93_87, r_93_87, s_93_90, s_93_91, s_93_94, s_93_95, s_93_97, r_93_97, s_93_100, s_93_102, s_93_104, s_93_105, s_93_108, s_93_110, s_93_111, s_93_113, s_93_114, s_93_117, s_93_120, s_93_121, s_93_122, s_93_125, s_93_136, s_93_137, s_93_140, s_93_143, s_93_144, s_93_145, jI_mul, jI_add, jI_tnc, jI_ixT, true_and, and_true, bZ_0, bZ_1, bZ_b, jI_nz, jI_div, jI_rem, jI_mod, Nat.add_zero, bI_if, not_false_iff, if_true, if_false, eq_self, jI_le, Nat.le_refl, if_true]
      generalize bhN oh ng nd nc h g k 24 = z at *
      rcases z with ⟨b, most⟩
      cases b with
      | none =>
        simp (disch := first | assumption | omega) only [bhC, s_205_0, s_205_1, s_205_2, s_205_3, s_205_4, r_205_4, rt_205_4_2, rt_205_4_3, s_205_7, s_205_8, s_205_9, s_205_13, s_205_14, s_205_16, s_205_17, s_205_18, s_205_19, s_93_0, s_93_1, s_93_4, s_93_5, r_93_5, s_93_8, s_93_11, s_93_21, s_93_22, s_93_23, s_93_24, s_93_25, s_93_26, s_93_30, s_93_32, s_93_35, s_93_36, s_93_39, s_93_42, s_93_44, s_93_45, s_93_47, s_93_48, s_93_51, s_93_54, s_93_55, s_93_56, s_93_58, r_93_58, s_93_61, s_93_64, s_93_65, s_93_68, s_93_69, s_93_72, r_93_72, s_93_75, s_93_76, s_93_79, s_93_82, s_93_83, s_93_84, s_93_86, s_93_87, r_93_87, s_93_90, s_93_91, s_93_94, s_93_95, s_93_97, r_93_97, s_93_100, s_93_102, s_93_104, s_93_105, s_93_108, s_93_110, s_93_111, s_93_113, s_93_114, s_93_117, s_93_120, s_93_121, s_93_122, s_93_125, s_93_136, s_93_137, s_93_140, s_93_143, s_93_144, s_93_145, jI_mul, jI_add, jI_tnc, jI_ixT, true_and, and_true, bZ_0, bZ_1, bZ_b, jI_nz, jI_div, jI_rem, jI_mod, Nat.add_zero, bI_if, not_false_iff, if_true, if_false, eq_self, if_true]
        exact F2 rfl _ hCI (same τ f1).2
      | some b =>
        have hb := hl b rfl
        have q1 : (jI b = jm1) = False := eq_false (jI_ne1 (by omega))
        have e9 : τ 1 9 = jI h := (R_s9 tR).trans b4
        simp (disch := first | assumption | omega) only [bhC, s_205_0, s_205_1, s_205_2, s_205_3, s_205_4, r_205_4, rt_205_4_2, rt_205_4_3, s_205_7, s_205_8, s_205_9, s_205_13, s_205_14, s_205_16, s_205_17, s_205_18, s_205_19, s_93_0, s_93_1, s_93_4, s_93_5, r_93_5, s_93_8, s_93_11, s_93_21, s_93_22, s_93_23, s_93_24, s_93_25, s_93_26, s_93_30, s_93_32, s_93_35, s_93_36, s_93_39, s_93_42, s_93_44, s_93_45, s_93_47, s_93_48, s_93_51, s_93_54, s_93_55, s_93_56, s_93_58, r_93_58, s_93_61, s_93_64, s_93_65, s_93_68, s_93_69, s_93_72, r_93_72, s_93_75, s_93_76, s_93_79, s_93_82, s_93_83, s_93_84, s_93_86, s_93_87, r_93_87, s_93_90, s_93_91, s_93_94, s_93_95, s_93_97, r_93_97, s_93_100, s_93_102, s_93_104, s_93_105, s_93_108, s_93_110, s_93_111, s_93_113, s_93_114, s_93_117, s_93_120, s_93_121, s_93_122, s_93_125, s_93_136, s_93_137, s_93_140, s_93_143, s_93_144, s_93_145, jI_mul, jI_add, jI_tnc, jI_ixT, true_and, and_true, bZ_0, bZ_1, bZ_b, jI_nz, jI_div, jI_rem, jI_mod, Nat.add_zero, bI_if, not_false_iff, if_true, if_false, eq_self, q1, if_false, e9]
        exact HH b rfl _ hCI (same τ f1).2
  · rw [if_neg q, hR]
    exact F1 q
end
