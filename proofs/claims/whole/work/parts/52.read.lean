/-! THE REFERENCE: read -/
set_option maxRecDepth 16384
section
variable {K : Ou → Me → Prop} {Ln : Nat} {σ : Nat → Nat → Int32} {g : Gr} {lo : Nat → Nat → Int64} {db : Nat → Nat → UInt64} {μ : Me} {ch : Nat} {oh : Nat → Nat → Bool} {ng nd nc h : Nat} {c : Nat → Nat} {len : Nat}
/-- orders one after the other -/
def runX (ng nd : Nat) : List Rc → Sg → Sg ⊕ Option (Nat × Int32)
  | [], s => .inl s
  | r :: l, s => match ordX ng nd r s with
    | .inl s' => runX ng nd l s'
    | .inr e => .inr e
theorem numS_lt : ∀ (m a v : Nat), (numS c len m a v).2 + 1 ≤ 10 ^ m * (v + 1)
  | 0, a, v => by show v + 1 ≤ 1 * (v + 1); omega
  | m + 1, a, v => by
    unfold numS
    have hp : 1 ≤ 10 ^ m := Nat.le_trans Nat.one_le_two_pow (Nat.pow_le_pow_left (by decide : 2 ≤ 10) m)
    by_cases hd : dg c len a = true
    · rw [if_pos hd]
      have h := numS_lt m (a + 1) (10 * v + (c a - 48))
      have hq := of_decide_eq_true hd
      have : 10 ^ m * (10 * v + (c a - 48) + 1) ≤ 10 ^ m * (10 * (v + 1)) := Nat.mul_le_mul_left _ (by omega)
      rw [Nat.pow_succ, Nat.mul_assoc]
      omega
    · rw [if_neg hd]
      show v + 1 ≤ 10 ^ (m + 1) * (v + 1)
      have : 1 * (v + 1) ≤ 10 ^ (m + 1) * (v + 1) := Nat.mul_le_mul_right _ (by rw [Nat.pow_succ]; omega)
      omega
theorem numP_lt {m a b x : Nat} (hm : m ≤ 3) (e : numP c len m a = .inr (b, x)) : x < 1000 := by
  unfold numP at e
  split at e
  · have h := numS_lt (c := c) (len := len) m a 0
    rw [Sum.inr.inj e] at h
    have : 10 ^ m ≤ 10 ^ 3 := Nat.pow_le_pow_right (by decide) hm
    omega
  · cases e
theorem ordP_B {a b : Nat} {r : Rc} (h : ordP c len a = .inr (b, r)) : RcB r := by
  unfold ordP at h
  split at h
  · split at h
    · next q =>
      split at h
      · cases h
      · next h1 => have := numP_lt (by decide) h1; cases h; exact ⟨by dsimp only; omega, this, Nat.succ_pos _, Nat.succ_pos _⟩
    · split at h
      · next q =>
        split at h
        · cases h
        · next h1 => have := numP_lt (by decide) h1; cases h; exact ⟨by dsimp only; omega, this, Nat.succ_pos _, Nat.succ_pos _⟩
      · split at h
        · next q =>
          split at h
          · cases h
          · next h1 =>
            have l1 := numP_lt (by decide) h1
            split at h
            · cases h
            · split at h
              · cases h
              · next h3 => have l3 := numP_lt (by decide) h3; cases h; exact ⟨by dsimp only; omega, l1, l3, Nat.succ_pos _⟩
        · split at h
          · next q =>
            split at h
            · cases h
            · next h1 =>
              have l1 := numP_lt (by decide) h1
              split at h
              · cases h
              · split at h
                · cases h
                · next h3 =>
                  have l3 := numP_lt (by decide) h3
                  split at h
                  · cases h
                  · split at h
                    · cases h
                    · next h5 => have l5 := numP_lt (by decide) h5; cases h; exact ⟨by dsimp only; omega, l1, l3, l5⟩
          · cases h
  · cases h
theorem txP_B : ∀ (f a : Nat) (l : List Rc), txP c len f a = .inr l → ∀ r, r ∈ l → RcB r
  | 0, a, l, h, r, hr => by cases h
  | f + 1, a, l, h, r, hr => by
    unfold txP at h
    split at h
    · cases h
    · next h1 =>
      have hb := ordP_B h1
      split at h
      · split at h
        · cases h
        · next h2 =>
          cases h
          rcases List.mem_cons.mp hr with rfl | hr
          · exact hb
          · exact txP_B f _ _ h2 r hr
      · split at h
        · cases h
          rcases List.mem_cons.mp hr with rfl | hr
          · exact hb
          · cases hr
        · cases h
theorem TM_MG {a n : Nat} {td : Nat → Int32} : TM (MG σ g) a n td = MG (TM σ a n td) g := by
  funext b k
  unfold TM MG
  by_cases h : b = 369
  · rw [if_neg (by omega), if_neg (by omega), if_neg (by omega), if_pos h, if_pos h]
  · rw [if_neg h, if_neg h]
/-- what an order keeps of the ground -/
theorem opN_bas {k a n : Nat} {p : Bool} (hB : Bas g oh ng nd nc h) (hk : k < 6) (hn : a + n ≤ 168) : Bas (opN g k a p n) (ohR oh k a p n) ng nd nc h := by
  obtain ⟨b1, b2, b3, b4, b5, b6, b7, b8, b9⟩ := hB
  have e : ∀ j, (j < 15 ∨ 75 ≤ j ∨ (j - 15) % 10 < 4) → opN g k a p n j = g j := fun j hj => opN_o hj hk n hn
  refine ⟨b1, b2, b3, ?_, ?_, ?_, ?_, opN_oh b8 n hn, ?_⟩
  · rw [e 0 (by omega)]; exact b4
  · rw [e 3 (by omega)]; exact b5
  · rw [e 4 (by omega)]; exact b6
  · rw [e 5 (by omega)]; exact b7
  · intro i hi
    rw [e _ (by omega), e _ (by omega)]; exact b9 i hi
theorem Bas_gu {k : Nat} {v : Int32} (hB : Bas g oh ng nd nc h) (hk : k = 1 ∨ k = 2 ∨ (6 ≤ k ∧ k < 15) ∨ (15 ≤ k ∧ k < 75 ∧ (k - 15) % 10 < 4) ∨ (75 ≤ k ∧ k < 183)) : Bas (gu g k v) oh ng nd nc h := by
  obtain ⟨b1, b2, b3, b4, b5, b6, b7, b8, b9⟩ := hB
  refine ⟨b1, b2, b3, ?_, ?_, ?_, ?_, b8.of (fun k p hk hp => gu_ne (by omega)), ?_⟩
  · rw [gu_ne (by omega)]; exact b4
  · rw [gu_ne (by omega)]; exact b5
  · rw [gu_ne (by omega)]; exact b6
  · rw [gu_ne (by omega)]; exact b7
  · intro i hi
    rw [gu_ne (by omega), gu_ne (by omega)]; exact b9 i hi
theorem cplS_bas {a b : Nat} (hB : Bas g oh ng nd nc h) (hn : nc < 8) (ha : a < nd) (hb : b < nd) : Bas (cplS g nc (jI a) (jI b)) oh ng nd (nc + 1) h := by
  obtain ⟨b1, b2, b3, b4, b5, b6, b7, b8, b9⟩ := hB
  unfold cplS
  refine ⟨b1, b2, by omega, ?_, ?_, ?_, gu_at, b8.of (fun k p hk hp => by rw [gu_ne (by omega), gu_ne (by omega), gu_ne (by omega)]), ?_⟩
  · rw [gu_ne (by omega), gu_ne (by omega), gu_ne (by omega)]; exact b4
  · rw [gu_ne (by omega), gu_ne (by omega), gu_ne (by omega)]; exact b5
  · rw [gu_ne (by omega), gu_ne (by omega), gu_ne (by omega)]; exact b6
  · intro i hi
    by_cases q : i = nc
    · subst q
      refine ⟨a, b, by omega, by omega, ?_, ?_⟩
      · rw [gu_ne (by omega), gu_ne (by omega), gu_at]
      · rw [gu_ne (by omega), show 184 + 2 * i = 183 + 2 * i + 1 by omega, gu_at]
    · rw [gu_ne (by omega), gu_ne (by omega), gu_ne (by omega), gu_ne (by omega), gu_ne (by omega), gu_ne (by omega)]
      exact b9 i (by omega)
theorem repS_bas {st : Nat} (hB : Bas g oh ng nd nc h) (hs : st < 6) : Bas (repS g nd st) oh ng nd nc h := by
  have hnd := hB.2.1
  have hp : ∀ n, n ≤ nd → Bas (rpPay g nd st n) oh ng nd nc h := by
    intro n
    induction n with
    | zero => exact fun _ => hB
    | succ n ih => exact fun hn => Bas_gu (ih (by omega)) (by omega)
  unfold repS
  exact Bas_gu (Bas_gu (Bas_gu (hp nd (Nat.le_refl _)) (by omega)) (by omega)) (by omega)
theorem ordX_bas {r : Rc} {s s' : Sg} (hB : SB s ng nd) (h : ordX ng nd r s = .inl s') : SB s' ng nd ∧ s'.2.2.2 ≤ s.2.2.2 + 200 := by
  obtain ⟨g, oh, nc, hr⟩ := s
  have hB' : Bas g oh ng nd nc hr := hB
  have hng := hB'.1
  unfold ordX at h
  dsimp only at h
  split at h
  · split at h
    · next q =>
      cases h
      exact ⟨opN_bas hB' (by omega) (by omega), by dsimp only; omega⟩
    · cases h
  · split at h
    · split at h
      · next q =>
        cases h
        exact ⟨hoursS_bas hB' _, by dsimp only; omega⟩
      · cases h
    · split at h
      · split at h
        · cases h
          exact ⟨Bas_gu hB' (by omega), by dsimp only; omega⟩
        · cases h
      · split at h
        · split at h
          · next q =>
            split at h
            · cases h
            · split at h
              · cases h
              · next q2 =>
                cases h
                have := hB'.2.2.1
                exact ⟨cplS_bas hB' (by omega) q.1 q.2.1, by dsimp only; omega⟩
          · cases h
        · split at h
          · split at h
            · cases h
            · split at h
              · cases h
              · split at h
                · cases h
                · cases h
                  exact ⟨repS_bas hB' (by omega), by dsimp only; omega⟩
          · cases h
/-- the kept rows behind a change -/
def KPr (row : Nat → Int32) (q : Gr) (ch : Nat) : Nat → Int32 := fun k =>
  if ch = 8 then (if k < 1393 then row (k + 199) else if k < 1592 then q (k - 1393) else row k) else if 199 * ch ≤ k ∧ k < 199 * ch + 199 then q (k - 199 * ch) else row k
theorem kpW_370 {src : Nat} (hs : src ≠ 370) (hs2 : src ≠ 368) (hch : ch ≤ 8) : kpW σ src ch 370 = KPr (σ 370) (σ src) ch := by
  funext k
  unfold kpW KPr
  by_cases h8 : ch = 8
  · rw [if_pos h8, if_pos h8, u2_na (by decide)]
    unfold cpy
    by_cases h1 : k < 1393
    · rw [if_neg (by omega), if_pos h1, u2_na (by decide)]
      exact if_pos ⟨rfl, h1⟩
    · rw [if_neg h1]
      by_cases h2 : k < 1592
      · rw [if_pos (by omega), if_pos h2, u2_na hs2]
        unfold shK
        rw [if_neg (by omega)]
        congr 1
        omega
      · rw [if_neg (by omega), if_neg h2, u2_na (by decide)]
        exact if_neg (by omega)
  · rw [if_neg h8, if_neg h8, u2_na (by decide)]
    unfold cpy
    by_cases h2 : 199 * ch ≤ k ∧ k < 199 * ch + 199
    · rw [if_pos (by omega), if_pos h2]
      congr 1
      omega
    · rw [if_neg (by omega), if_neg h2]
theorem kpW_o {src a : Nat} (h1 : a ≠ 370) (h2 : a ≠ 368) : kpW σ src ch a = σ a := by
  funext k
  unfold kpW
  split
  · rw [u2_na h2, cpy_o h1, u2_na h2]
    exact if_neg (by omega)
  · rw [u2_na h2, cpy_o h1]
theorem kpW_f {src j : Nat} (hj : j ≠ 6) : kpW σ src ch 368 j = σ 368 j := by
  unfold kpW
  split
  · rw [u2_nk hj, cpy_o (by decide), u2_nk hj]
    exact if_neg (by omega)
  · rw [u2_nk hj, cpy_o (by decide)]
theorem kpW_6 {src : Nat} (hch : ch ≤ 8) : kpW σ src ch 368 6 = jI (min (ch + 1) 8) := by
  unfold kpW
  split
  · next h => rw [u2_at, h]; rfl
  · rw [u2_at, Nat.min_eq_left (by omega)]
/-- what carrying out a text changes in the memory, in between -/
def FQ (σ σ' : Nat → Nat → Int32) : Prop := (∀ a, a ≠ 375 → a ≠ 368 → σ' a = σ a) ∧ (∀ j, j ≠ 16 → j ≠ 8 → σ' 368 j = σ 368 j) ∧ σ' 368 8 = jI 0
theorem ordX_hi {r : Rc} {s s' : Sg} (hB : SB s ng nd) (h : ordX ng nd r s = .inl s') {k : Nat} (hk : 199 ≤ k) : s'.1 k = s.1 k := by
  obtain ⟨g, oh, nc, hr⟩ := s
  have hB' : Bas g oh ng nd nc hr := hB
  have hng := hB'.1
  have hnd := hB'.2.1
  have hnc := hB'.2.2.1
  unfold ordX at h
  dsimp only at h
  split at h
  · split at h
    · next q =>
      cases h
      exact opN_o (by omega) (by omega) _ (by omega)
    · cases h
  · split at h
    · split at h
      · next q =>
        cases h
        exact hoursS_hi (by omega) hB' _
      · cases h
    · split at h
      · split at h
        · cases h
          exact gu_ne (by omega)
        · cases h
      · split at h
        · split at h
          · next q =>
            split at h
            · cases h
            · split at h
              · cases h
              · next q2 =>
                cases h
                unfold cplS
                dsimp only
                rw [gu_ne (by omega), gu_ne (by omega), gu_ne (by omega)]
          · cases h
        · split at h
          · split at h
            · cases h
            · split at h
              · cases h
              · split at h
                · cases h
                · cases h
                  unfold repS
                  dsimp only
                  rw [gu_ne (by omega), gu_ne (by omega), gu_ne (by omega)]
                  exact rpPay_o (fun _ _ => by omega)
          · cases h
theorem FQ.refl (h : σ 368 8 = jI 0) : FQ σ σ := ⟨fun _ _ _ => rfl, fun _ _ _ => rfl, h⟩
theorem FQ.next {σ' σ'' : Nat → Nat → Int32} (h : FQ σ σ') (f : FR (u2 σ' 368 8 (jI 0)) σ'') : FQ σ σ'' :=
  ⟨fun a h1 h2 => (f.1 a h1 h2).trans ((by funext k; exact u2_na h2 : u2 σ' 368 8 (jI 0) a = σ' a).trans (h.1 a h1 h2)), fun j h1 h2 => (f.2 j h1).trans ((u2_nk h2).trans (h.2.1 j h1 h2)), (f.2 8 (by decide)).trans u2_at⟩
theorem m_run {N : Nat} (hw : σ 368 7 = jI 1) (hc : σ 368 6 = jI ch) (hch : ch ≤ 8) (hN : N ≤ 20) (h19 : σ 368 19 = jI N) : ∀ (l : List Rc) (k : Nat) (s : Sg) (σ' : Nat → Nat → Int32) (got : Int32), k + l.length = N → (∀ i r, l[i]? = some r → tdR (σ 376) (k + i) r ∧ RcB r) → SB s ng nd → s.2.2.2 + 200 * l.length < 1000000000 → FQ σ σ' → (∀ k, 199 ≤ k → s.1 k = g k) →
    (∀ s' v σ'', runX ng nd l s = .inl s' → SB s' ng nd → FQ σ σ'' → (∀ k, 199 ≤ k → s'.1 k = g k) → Ev 173 (100, [.ref 368, .int (jI 1), .int v, .int (jI N)], [], 0, 0, MM Ln (MG σ'' s'.1) lo db) K) →
    (∀ w v v' gq σ'', runX ng nd l s = .inr none → 0 < w → w < 10 → (∀ a, a ≠ 375 → a ≠ 368 → σ'' a = σ a) → (∀ j, j ≠ 16 → j ≠ 8 → σ'' 368 j = σ 368 j) → σ'' 368 8 = jI w → (∀ k, 199 ≤ k → gq k = g k) →
      Ev 173 (100, [.ref 368, .int (jI 1), .int v, .int v'], [], 0, 0, MM Ln (MG σ'' gq) lo db) K) →
    (∀ w x d v v' gq σ'', runX ng nd l s = .inr (some (x, d)) → 0 < w → w < 10 → (∀ a, a ≠ 375 → a ≠ 368 → σ'' a = σ a) → (∀ j, j ≠ 16 → j ≠ 8 → j ≠ 9 → j ≠ 10 → j ≠ 11 → σ'' 368 j = σ 368 j) → σ'' 368 8 = jI w → σ'' 368 9 = jI 1 → σ'' 368 10 = jI x → σ'' 368 11 = d → (∀ k, 199 ≤ k → gq k = g k) →
      Ev 173 (100, [.ref 368, .int (jI 1), .int v, .int v'], [], 0, 0, MM Ln (MG σ'' gq) lo db) K) →
    Ev 173 (71, [.ref 368, .int (jI 1), .int got, .int (jI k)], [], 0, 0, MM Ln (MG σ' s.1) lo db) K
  | [], k, s, σ', got, hk, hT, hB, hh, f, hi, D, W, R => by
    have e19 : σ' 368 19 = jI N := (f.2.1 19 (by decide) (by decide)).trans h19
    have hkN : k = N := hk
    subst hkN
    rw [s_173_71]
    simp (disch := omega) only [s_173_0, s_173_1, r_173_1, s_173_4, s_173_5, s_173_6, s_173_7, s_173_10, s_173_11, s_173_14, s_173_15, s_173_18, s_173_21, s_173_22, s_173_23, s_173_26, s_173_27, s_173_28, s_173_31, s_173_32, s_173_35, s_173_36, r_173_36, s_173_39, s_173_42, s_173_43, s_173_44, s_173_45, s_173_48, s_173_49, s_173_50, s_173_53, s_173_54, r_173_54, s_173_57, s_173_58, s_173_59, s_173_62, s_173_63, s_173_64, s_173_67, s_173_68, s_173_69, s_173_70, s_173_72, s_173_73, s_173_76, s_173_79, s_173_80, s_173_83, s_173_86, s_173_87, s_173_88, s_173_89, s_173_90, r_173_90, s_173_93, s_173_94, s_173_97, s_173_101, s_173_102, s_173_105, s_173_106, s_173_109, s_173_112, s_173_113, s_173_116, s_173_117, s_173_118, s_173_121, s_173_122, r_173_122, s_173_125, s_173_126, s_173_127, s_173_130, s_173_133, s_173_134, s_173_137, s_173_138, s_173_141, s_173_142, s_173_145, s_173_146, s_173_149, s_173_150, s_173_151, s_173_152, s_173_153, s_173_156, r_173_156, s_173_159, s_173_160, s_173_163, jI_mul, jI_add, jI_tnc, jI_ixT, true_and, and_true, bZ_0, bZ_1, bZ_b, jI_nz, jI_div, jI_rem, jI_mod, Nat.add_zero, bI_if, not_false_iff, if_true, if_false, eq_self, MG_o, e19, Int32.le_refl, if_true]
    exact D s _ _ rfl hB f hi
  | r :: l, k, s, σ', got, hk, hT, hB, hh, f, hi, D, W, R => by
    have e19 : σ' 368 19 = jI N := (f.2.1 19 (by decide) (by decide)).trans h19
    have e8 : σ' 368 8 = jI 0 := f.2.2
    have hk' : k + (l.length + 1) = N := hk
    have hT0 := hT 0 r rfl
    have e376 : σ' 376 = σ 376 := f.1 376 (by decide) (by decide)
    have hh' : s.2.2.2 + 200 * (l.length + 1) < 1000000000 := hh
    rw [s_173_71]
    simp (disch := omega) only [s_173_0, s_173_1, r_173_1, s_173_4, s_173_5, s_173_6, s_173_7, s_173_10, s_173_11, s_173_14, s_173_15, s_173_18, s_173_21, s_173_22, s_173_23, s_173_26, s_173_27, s_173_28, s_173_31, s_173_32, s_173_35, s_173_36, r_173_36, s_173_39, s_173_42, s_173_43, s_173_44, s_173_45, s_173_48, s_173_49, s_173_50, s_173_53, s_173_54, r_173_54, s_173_57, s_173_58, s_173_59, s_173_62, s_173_63, s_173_64, s_173_67, s_173_68, s_173_69, s_173_70, s_173_72, s_173_73, s_173_76, s_173_79, s_173_80, s_173_83, s_173_86, s_173_87, s_173_88, s_173_89, s_173_90, r_173_90, s_173_93, s_173_94, s_173_97, s_173_101, s_173_102, s_173_105, s_173_106, s_173_109, s_173_112, s_173_113, s_173_116, s_173_117, s_173_118, s_173_121, s_173_122, r_173_122, s_173_125, s_173_126, s_173_127, s_173_130, s_173_133, s_173_134, s_173_137, s_173_138, s_173_141, s_173_142, s_173_145, s_173_146, s_173_149, s_173_150, s_173_151, s_173_152, s_173_153, s_173_156, r_173_156, s_173_159, s_173_160, s_173_163, jI_mul, jI_add, jI_tnc, jI_ixT, true_and, and_true, bZ_0, bZ_1, bZ_b, jI_nz, jI_div, jI_rem, jI_mod, Nat.add_zero, bI_if, not_false_iff, if_true, if_false, eq_self, MG_o, e19, e8, jI_le]
    rw [if_neg (by omega)]
    refine m_carries (n := k) (r := r) (oh := s.2.1) (nc := s.2.2.1) (h := s.2.2.2) hB (by omega) ((f.2.1 7 (by decide) (by decide)).trans hw) ((f.2.1 6 (by decide) (by decide)).trans hc) hch (by rw [e376]; exact hT0.1) (by omega) hT0.2 (fun s' v σ'' he f2 => ?_) (fun w w0 w1 he => ?_) (fun w x d w0 w1 he => ?_)
    · have hs : (s.1, s.2.1, s.2.2.1, s.2.2.2) = s := rfl
      rw [hs] at he
      have hb := ordX_bas hB he
      have hn : runX ng nd (r :: l) s = runX ng nd l s' := by
        show (match ordX ng nd r s with | .inl s' => runX ng nd l s' | .inr e => .inr e) = _
        rw [he]
      rw [hn] at D W R
      simp (disch := omega) only [s_173_0, s_173_1, r_173_1, s_173_4, s_173_5, s_173_6, s_173_7, s_173_10, s_173_11, s_173_14, s_173_15, s_173_18, s_173_21, s_173_22, s_173_23, s_173_26, s_173_27, s_173_28, s_173_31, s_173_32, s_173_35, s_173_36, r_173_36, s_173_39, s_173_42, s_173_43, s_173_44, s_173_45, s_173_48, s_173_49, s_173_50, s_173_53, s_173_54, r_173_54, s_173_57, s_173_58, s_173_59, s_173_62, s_173_63, s_173_64, s_173_67, s_173_68, s_173_69, s_173_70, s_173_72, s_173_73, s_173_76, s_173_79, s_173_80, s_173_83, s_173_86, s_173_87, s_173_88, s_173_89, s_173_90, r_173_90, s_173_93, s_173_94, s_173_97, s_173_101, s_173_102, s_173_105, s_173_106, s_173_109, s_173_112, s_173_113, s_173_116, s_173_117, s_173_118, s_173_121, s_173_122, r_173_122, s_173_125, s_173_126, s_173_127, s_173_130, s_173_133, s_173_134, s_173_137, s_173_138, s_173_141, s_173_142, s_173_145, s_173_146, s_173_149, s_173_150, s_173_151, s_173_152, s_173_153, s_173_156, r_173_156, s_173_159, s_173_160, s_173_163, jI_mul, jI_add, jI_tnc, jI_ixT, true_and, and_true, bZ_0, bZ_1, bZ_b, jI_nz, jI_div, jI_rem, jI_mod, Nat.add_zero, bI_if, not_false_iff, if_true, if_false, eq_self]
      exact m_run hw hc hch hN h19 l (k + 1) s' σ'' v (by omega) (fun i r' hi => by
        have := hT (i + 1) r' (by rw [List.getElem?_cons_succ]; exact hi)
        rw [show k + 1 + i = k + (i + 1) by omega]; exact this) hb.1 (by omega) (f.next f2) (fun j hj => (ordX_hi hB he hj).trans (hi j hj)) D W R
    · have hs : (s.1, s.2.1, s.2.2.1, s.2.2.2) = s := rfl
      rw [hs] at he
      have hn : runX ng nd (r :: l) s = .inr none := by
        show (match ordX ng nd r s with | .inl s' => runX ng nd l s' | .inr e => .inr e) = _
        rw [he]
      have q19 : u2 σ' 368 8 (jI w) 368 19 = jI N := (u2_nk (by decide)).trans e19
      have wz : (jI w = jI 0) = False := jI_nz w0 (by omega)
      simp (disch := omega) only [s_173_0, s_173_1, r_173_1, s_173_4, s_173_5, s_173_6, s_173_7, s_173_10, s_173_11, s_173_14, s_173_15, s_173_18, s_173_21, s_173_22, s_173_23, s_173_26, s_173_27, s_173_28, s_173_31, s_173_32, s_173_35, s_173_36, r_173_36, s_173_39, s_173_42, s_173_43, s_173_44, s_173_45, s_173_48, s_173_49, s_173_50, s_173_53, s_173_54, r_173_54, s_173_57, s_173_58, s_173_59, s_173_62, s_173_63, s_173_64, s_173_67, s_173_68, s_173_69, s_173_70, s_173_72, s_173_73, s_173_76, s_173_79, s_173_80, s_173_83, s_173_86, s_173_87, s_173_88, s_173_89, s_173_90, r_173_90, s_173_93, s_173_94, s_173_97, s_173_101, s_173_102, s_173_105, s_173_106, s_173_109, s_173_112, s_173_113, s_173_116, s_173_117, s_173_118, s_173_121, s_173_122, r_173_122, s_173_125, s_173_126, s_173_127, s_173_130, s_173_133, s_173_134, s_173_137, s_173_138, s_173_141, s_173_142, s_173_145, s_173_146, s_173_149, s_173_150, s_173_151, s_173_152, s_173_153, s_173_156, r_173_156, s_173_159, s_173_160, s_173_163, jI_mul, jI_add, jI_tnc, jI_ixT, true_and, and_true, bZ_0, bZ_1, bZ_b, jI_nz, jI_div, jI_rem, jI_mod, Nat.add_zero, bI_if, not_false_iff, if_true, if_false, eq_self]
      rw [s_173_71]
      simp (disch := omega) only [s_173_0, s_173_1, r_173_1, s_173_4, s_173_5, s_173_6, s_173_7, s_173_10, s_173_11, s_173_14, s_173_15, s_173_18, s_173_21, s_173_22, s_173_23, s_173_26, s_173_27, s_173_28, s_173_31, s_173_32, s_173_35, s_173_36, r_173_36, s_173_39, s_173_42, s_173_43, s_173_44, s_173_45, s_173_48, s_173_49, s_173_50, s_173_53, s_173_54, r_173_54, s_173_57, s_173_58, s_173_59, s_173_62, s_173_63, s_173_64, s_173_67, s_173_68, s_173_69, s_173_70, s_173_72, s_173_73, s_173_76, s_173_79, s_173_80, s_173_83, s_173_86, s_173_87, s_173_88, s_173_89, s_173_90, r_173_90, s_173_93, s_173_94, s_173_97, s_173_101, s_173_102, s_173_105, s_173_106, s_173_109, s_173_112, s_173_113, s_173_116, s_173_117, s_173_118, s_173_121, s_173_122, r_173_122, s_173_125, s_173_126, s_173_127, s_173_130, s_173_133, s_173_134, s_173_137, s_173_138, s_173_141, s_173_142, s_173_145, s_173_146, s_173_149, s_173_150, s_173_151, s_173_152, s_173_153, s_173_156, r_173_156, s_173_159, s_173_160, s_173_163, jI_mul, jI_add, jI_tnc, jI_ixT, true_and, and_true, bZ_0, bZ_1, bZ_b, jI_nz, jI_div, jI_rem, jI_mod, Nat.add_zero, bI_if, not_false_iff, if_true, if_false, eq_self, MG_o, q19, u2_at, wz, if_false, ite_self]
      exact W w _ _ _ _ hn w0 w1 (fun a h1 h2 => (by funext q; exact u2_na h2 : u2 σ' 368 8 (jI w) a = σ' a).trans (f.1 a h1 h2)) (fun j h1 h2 => (u2_nk h2).trans (f.2.1 j h1 h2)) u2_at hi
    · have hs : (s.1, s.2.1, s.2.2.1, s.2.2.2) = s := rfl
      rw [hs] at he
      have hn : runX ng nd (r :: l) s = .inr (some (x, d)) := by
        show (match ordX ng nd r s with | .inl s' => runX ng nd l s' | .inr e => .inr e) = _
        rw [he]
      have q19 : u2 (u2 (u2 (u2 (u2 σ' 368 8 (jI 0)) 368 8 (jI w)) 368 9 (jI 1)) 368 10 (jI x)) 368 11 d 368 19 = jI N := by
        rw [u2_nk (by decide), u2_nk (by decide), u2_nk (by decide), u2_nk (by decide), u2_nk (by decide)]; exact e19
      have q8 : u2 (u2 (u2 (u2 (u2 σ' 368 8 (jI 0)) 368 8 (jI w)) 368 9 (jI 1)) 368 10 (jI x)) 368 11 d 368 8 = jI w := by
        rw [u2_nk (by decide), u2_nk (by decide), u2_nk (by decide), u2_at]
      have wz : (jI w = jI 0) = False := jI_nz w0 (by omega)
      simp (disch := omega) only [s_173_0, s_173_1, r_173_1, s_173_4, s_173_5, s_173_6, s_173_7, s_173_10, s_173_11, s_173_14, s_173_15, s_173_18, s_173_21, s_173_22, s_173_23, s_173_26, s_173_27, s_173_28, s_173_31, s_173_32, s_173_35, s_173_36, r_173_36, s_173_39, s_173_42, s_173_43, s_173_44, s_173_45, s_173_48, s_173_49, s_173_50, s_173_53, s_173_54, r_173_54, s_173_57, s_173_58, s_173_59, s_173_62, s_173_63, s_173_64, s_173_67, s_173_68, s_173_69, s_173_70, s_173_72, s_173_73, s_173_76, s_173_79, s_173_80, s_173_83, s_173_86, s_173_87, s_173_88, s_173_89, s_173_90, r_173_90, s_173_93, s_173_94, s_173_97, s_173_101, s_173_102, s_173_105, s_173_106, s_173_109, s_173_112, s_173_113, s_173_116, s_173_117, s_173_118, s_173_121, s_173_122, r_173_122, s_173_125, s_173_126, s_173_127, s_173_130, s_173_133, s_173_134, s_173_137, s_173_138, s_173_141, s_173_142, s_173_145, s_173_146, s_173_149, s_173_150, s_173_151, s_173_152, s_173_153, s_173_156, r_173_156, s_173_159, s_173_160, s_173_163, jI_mul, jI_add, jI_tnc, jI_ixT, true_and, and_true, bZ_0, bZ_1, bZ_b, jI_nz, jI_div, jI_rem, jI_mod, Nat.add_zero, bI_if, not_false_iff, if_true, if_false, eq_self]
      rw [s_173_71]
      simp (disch := omega) only [s_173_0, s_173_1, r_173_1, s_173_4, s_173_5, s_173_6, s_173_7, s_173_10, s_173_11, s_173_14, s_173_15, s_173_18, s_173_21, s_173_22, s_173_23, s_173_26, s_173_27, s_173_28, s_173_31, s_173_32, s_173_35, s_173_36, r_173_36, s_173_39, s_173_42, s_173_43, s_173_44, s_173_45, s_173_48, s_173_49, s_173_50, s_173_53, s_173_54, r_173_54, s_173_57, s_173_58, s_173_59, s_173_62, s_173_63, s_173_64, s_173_67, s_173_68, s_173_69, s_173_70, s_173_72, s_173_73, s_173_76, s_173_79, s_173_80, s_173_83, s_173_86, s_173_87, s_173_88, s_173_89, s_173_90, r_173_90, s_173_93, s_173_94, s_173_97, s_173_101, s_173_102, s_173_105, s_173_106, s_173_109, s_173_112, s_173_113, s_173_116, s_173_117, s_173_118, s_173_121, s_173_122, r_173_122, s_173_125, s_173_126, s_173_127, s_173_130, s_173_133, s_173_134, s_173_137, s_173_138, s_173_141, s_173_142, s_173_145, s_173_146, s_173_149, s_173_150, s_173_151, s_173_152, s_173_153, s_173_156, r_173_156, s_173_159, s_173_160, s_173_163, jI_mul, jI_add, jI_tnc, jI_ixT, true_and, and_true, bZ_0, bZ_1, bZ_b, jI_nz, jI_div, jI_rem, jI_mod, Nat.add_zero, bI_if, not_false_iff, if_true, if_false, eq_self, MG_o, q19, q8, wz, if_false, ite_self]
      refine R w x d _ _ _ _ hn w0 w1 (fun a h1 h2 => ?_) (fun j h1 h2 h3 h4 h5 => ?_) q8 ?_ ?_ u2_at hi
      · funext q
        rw [u2_na h2, u2_na h2, u2_na h2, u2_na h2, u2_na h2, f.1 a h1 h2]
      · rw [u2_nk h5, u2_nk h4, u2_nk h3, u2_nk h2, u2_nk h2, f.2.1 j h1 h2]
      · rw [u2_nk (by decide), u2_nk (by decide), u2_at]
      · rw [u2_nk (by decide), u2_at]
end
