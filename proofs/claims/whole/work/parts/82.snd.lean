/-! SOUND STATES: what each change keeps -/
set_option maxRecDepth 16384
section
variable {g g' : Gr} {oh : Nat → Nat → Bool} {ng nd nc h i : Nat}
theorem QC_mono {ng' nd' nc' c : Nat} {v : Int32} (h1 : ng ≤ ng') (h2 : nd ≤ nd') (h3 : nc ≤ nc') (n1 : ng' ≤ 6) (n2 : nd' ≤ 12) (hc : ¬ (15 + 10 * ng ≤ c ∧ c < 15 + 10 * ng') ∧ ¬ (75 + 9 * nd ≤ c ∧ c < 75 + 9 * nd') ∧ ¬ (183 + 2 * nc ≤ c ∧ c < 183 + 2 * nc')) (hQ : QC ng nd nc c v) : QC ng' nd' nc' c v := by
  unfold QC at hQ ⊢
  split
  · next q => rw [if_pos (by omega)] at hQ; exact hQ
  · next q1 =>
    rw [if_neg (by omega)] at hQ
    split
    · next q => rw [if_pos (by omega)] at hQ; exact hQ
    · next q2 =>
      rw [if_neg (by omega)] at hQ
      split
      · next q =>
        rw [if_pos (by omega)] at hQ
        obtain ⟨k, hk, e⟩ := hQ
        exact ⟨k, by omega, e⟩
      · next q3 =>
        rw [if_neg (by omega)] at hQ
        split
        · next q => rw [if_pos (by omega)] at hQ; exact hQ
        · next q4 =>
          rw [if_neg (by omega)] at hQ
          split
          · next q => rw [if_pos (by omega)] at hQ; exact hQ
          · next q5 =>
            rw [if_neg (by omega)] at hQ
            split
            · next q => rw [if_pos (by omega)] at hQ; exact hQ
            · next q6 =>
              rw [if_neg (by omega)] at hQ
              split
              · next q => rw [if_pos (by omega)] at hQ; exact hQ
              · next q7 =>
                rw [if_neg (by omega)] at hQ
                split
                · next q => rw [if_pos (by omega)] at hQ; exact hQ
                · next q8 =>
                  rw [if_neg (by omega)] at hQ
                  split
                  · next q =>
                    rw [if_pos (by omega)] at hQ
                    obtain ⟨a, ha, e⟩ := hQ
                    exact ⟨a, by omega, e⟩
                  · trivial
theorem Snd_mk (a : Cb g ng nd nc h) (b : OHm g oh) (c : NG g) (d : ACt g ng nd) : Snd (g, oh, ng, nd, nc, h) := ⟨a, b, c, d⟩
theorem Snd_of (hS : Snd (g, oh, ng, nd, nc, h)) : Cb g ng nd nc h ∧ OHm g oh ∧ NG g ∧ ACt g ng nd := hS
theorem NG_gu {k : Nat} {v : Int32} (hN : NG g) (hk : k < 199) : NG (gu g k v) := fun j hj => by
  rw [gu_ne (by omega)]; exact hN j hj
theorem snd_inf {n : Nat} (hS : Snd (g, oh, ng, nd, nc, h)) (hn : n ≤ 200) : Snd (gu g 1 (jI n), oh, ng, nd, nc, h) := by
  obtain ⟨hB, hO, hN, hA⟩ := Snd_of hS
  have hB' : Cb g ng nd nc h := hB
  exact ⟨inf_cb hB' hn, hO.of (fun k p hk hp => gu_ne (by omega)), NG_gu hN (by omega), ACt_cg (ng := ng) (nd := nd) hB'.1 hB'.2.1 (fun c hc => gu_ne (by omega)) hA⟩
theorem snd_fine {v : Int32} (hS : Snd (g, oh, ng, nd, nc, h)) : Snd (gu g 2 v, oh, ng, nd, nc, h) := by
  obtain ⟨hB, hO, hN, hA⟩ := Snd_of hS
  have hB' : Cb g ng nd nc h := hB
  exact ⟨Cb_gu hB' (by omega), hO.of (fun k p hk hp => gu_ne (by omega)), NG_gu hN (by omega), ACt_cg (ng := ng) (nd := nd) hB'.1 hB'.2.1 (fun c hc => gu_ne (by omega)) hA⟩
theorem snd_pay {k : Nat} {v : Int32} (hS : Snd (g, oh, ng, nd, nc, h)) (hk : k < nd) : Snd (gu g (75 + 9 * k + 3) v, oh, ng, nd, nc, h) := by
  obtain ⟨hB, hO, hN, hA⟩ := Snd_of hS
  have hB' : Cb g ng nd nc h := hB
  have hnd := hB'.2.1
  exact ⟨Cb_gu hB' (by omega), hO.of (fun k p hk hp => gu_ne (by omega)), NG_gu hN (by omega), ACt_cg (ng := ng) (nd := nd) hB'.1 hB'.2.1 (fun c hc => gu_ne (by omega)) hA⟩
theorem snd_thief {k : Nat} {p : Prop} [Decidable p] (hS : Snd (g, oh, ng, nd, nc, h)) (hk : k < nd) : Snd (gu g (75 + 9 * k + 5) (bI p), oh, ng, nd, nc, h) := by
  obtain ⟨hB, hO, hN, hA⟩ := Snd_of hS
  have hB' : Cb g ng nd nc h := hB
  have hnd := hB'.2.1
  refine ⟨?_, hO.of (fun k p hk hp => gu_ne (by omega)), NG_gu hN (by omega), ACt_cg (ng := ng) (nd := nd) hB'.1 hB'.2.1 (fun c hc => gu_ne (by omega)) hA⟩
  obtain ⟨b1, b2, b3, b4, b5, b6, b7, ⟨w, hw, b8⟩, b9⟩ := hB'
  refine ⟨b1, b2, b3, ?_, ?_, ?_, ?_, ⟨w, hw, ?_⟩, QI_gu b9 ((QC_5 b1 hk).mpr (of_eq_true (bZ_b p)))⟩
  · dsimp only; rw [gu_ne (by omega)]; exact b4
  · dsimp only; rw [gu_ne (by omega)]; exact b5
  · dsimp only; rw [gu_ne (by omega)]; exact b6
  · dsimp only; rw [gu_ne (by omega)]; exact b7
  · dsimp only; rw [gu_ne (by omega)]; exact b8
theorem snd_open {k a n : Nat} {p : Bool} (hS : Snd (g, oh, ng, nd, nc, h)) (hk : k < ng) (hn : a + n ≤ 168) : Snd (opN g k a p n, ohR oh k a p n, ng, nd, nc, h) := by
  obtain ⟨hB, hO, hN, hA⟩ := Snd_of hS
  have hB' : Cb g ng nd nc h := hB
  have hng := hB'.1
  exact ⟨opN_cb hB' (by omega) n hn, opN_oh hO n hn, fun j hj => (opN_o (by omega) (by omega) n hn).trans (hN j hj), ACt_cg (ng := ng) (nd := nd) hB'.1 hB'.2.1 (fun c hc => opN_o (by omega) (by omega) n hn) hA⟩
theorem snd_cpl {a b : Nat} (hS : Snd (g, oh, ng, nd, nc, h)) (hn : nc < 8) (ha : a < nd) (hb : b < nd) : Snd (cplS g nc (jI a) (jI b), oh, ng, nd, nc + 1, h) := by
  obtain ⟨hB, hO, hN, hA⟩ := Snd_of hS
  have hB' : Cb g ng nd nc h := hB
  have hnd := hB'.2.1
  have e : ∀ c, c ≠ 5 → c ≠ 183 + 2 * nc → c ≠ 183 + 2 * nc + 1 → cplS g nc (jI a) (jI b) c = g c := fun c h1 h2 h3 => by
    unfold cplS
    rw [gu_ne h1, gu_ne h3, gu_ne h2]
  exact ⟨cplS_cb hB' hn ha hb, hO.of (fun k p hk hp => e _ (by omega) (by omega) (by omega)), fun j hj => (e j (by omega) (by omega) (by omega)).trans (hN j hj), ACt_cg (ng := ng) (nd := nd) hB'.1 hB'.2.1 (fun c hc => e c (by omega) (by omega) (by omega)) hA⟩
theorem snd_rep {st : Nat} (hS : Snd (g, oh, ng, nd, nc, h)) (hs : st < ng) : Snd (repS g nd st, oh, ng, nd, nc, h) := by
  obtain ⟨hB, hO, hN, hA⟩ := Snd_of hS
  have hB' : Cb g ng nd nc h := hB
  have hng := hB'.1
  have hnd := hB'.2.1
  have e : ∀ c, c ≠ 6 → c ≠ 14 → c ≠ 15 + 10 * st + 1 → (∀ i, i < nd → c ≠ 75 + 9 * i + 3) → repS g nd st c = g c := fun c h1 h2 h3 h4 => by
    unfold repS
    rw [gu_ne h2, gu_ne h3, gu_ne h1, rpPay_o h4]
  exact ⟨repS_cb hB' hs, hO.of (fun k p hk hp => e _ (by omega) (by omega) (by omega) (fun _ _ => by omega)), fun j hj => (e j (by omega) (by omega) (by omega) (fun _ _ => by omega)).trans (hN j hj), ACt_cg (ng := ng) (nd := nd) hB'.1 hB'.2.1 (fun c hc => e c (by omega) (by omega) (by omega) (fun _ _ => by omega)) hA⟩
theorem snd_hours {n : Nat} (hS : Snd (g, oh, ng, nd, nc, h)) (hn : h + n < 2000000000) : Snd ((hoursS oh ng nd nc h g n).1, oh, ng, nd, (hoursS oh ng nd nc h g n).2, h + n) := by
  obtain ⟨hB, hO, hN, hA⟩ := Snd_of hS
  have hB' : Cb g ng nd nc h := hB
  have hBa : Bas g oh ng nd nc h := Bas_of hB' hO
  exact ⟨hoursS_cb hB' n (by omega), (hoursS_bas hBa n).2.2.2.2.2.2.2.1, fun j hj => (hoursS_hi (by omega) hBa n).trans (hN j hj), hours_acc hB' hA n (by omega)⟩
theorem drk_none {k : Nat} : ∀ n, (∀ i, i < n → ¬ g (75 + 9 * i) = jI k) → drkS g k n = jI 0
  | 0, _ => rfl
  | n + 1, hn => by rw [drk_s, drk_none n (fun i hi => hn i (by omega)), if_neg (hn n (by omega))]; rfl
theorem snd_gate {w : Int32} (hS : Snd (g, oh, ng, nd, nc, h)) (hg6 : ng < 6) (hw : rng w 1 60) : Snd (gateS g ng w, ohZ oh ng, ng + 1, nd, nc, h) := by
  obtain ⟨hB, hO, hN, hA⟩ := Snd_of hS
  have hB' : Cb g ng nd nc h := hB
  obtain ⟨b1, b2, b3, b4, b5, b6, b7, ⟨wi, hwi, b8⟩, b9⟩ := hB'
  obtain ⟨wn, rfl, w1, w2⟩ := rng_of hw (by decide) (by decide)
  have e : ∀ c, c ≠ 3 → ¬ (15 + 10 * ng ≤ c ∧ c < 15 + 10 * ng + 10) → gateS g ng (jI wn) c = g c := fun c h1 h2 => by
    rw [gateS_at, if_neg (by omega), if_neg (by omega), if_neg h2, if_neg h1]
  refine Snd_mk ⟨by omega, b2, b3, ?_, ?_, ?_, ?_, ⟨wi, hwi, ?_⟩, fun c => ?_⟩ (fun k x hk hx => ?_) (fun j hj => (e j (by omega) (by omega)).trans (hN j hj)) ?_
  · exact (e 0 (by omega) (by omega)).trans b4
  · rw [gateS_at, if_neg (by omega), if_neg (by omega), if_neg (by omega), if_pos rfl]
  · exact (e 4 (by omega) (by omega)).trans b6
  · exact (e 5 (by omega) (by omega)).trans b7
  · exact (e 1 (by omega) (by omega)).trans b8
  · by_cases q0 : c = 15 + 10 * ng
    · subst q0
      refine (QC_w (by omega) (by omega)).mpr ⟨wn, w2, ?_⟩
      rw [gateS_at, if_neg (by omega), if_pos rfl]
    · by_cases q1 : c = 15 + 10 * ng + 1
      · subst q1
        refine (QC_l (by omega) (by omega)).mpr ⟨5, by omega, ?_⟩
        rw [gateS_at, if_pos rfl]
      · by_cases q2 : 15 + 10 * ng ≤ c ∧ c < 15 + 10 * ng + 10
        · exact QC_o (by omega)
        · by_cases q3 : c = 3
          · subst q3; exact QC_o (by omega)
          · rw [e c q3 q2]
            exact QC_mono (by omega) (Nat.le_refl _) (Nat.le_refl _) (by omega) b2 ⟨by omega, by omega, by omega⟩ (b9 c)
  · unfold ohZ
    have h0 := hO k x hk hx
    rw [bit_iff (by omega)] at h0 ⊢
    by_cases q : k = ng
    · subst q
      rw [gateS_at, if_neg (by omega), if_neg (by omega), if_pos (by omega), bt_0, if_pos rfl]
    · rw [e _ (by omega) (by omega), if_neg q]; exact h0
  · obtain ⟨a1, a2, a3, a4⟩ := hA
    have s6 : sumS (gateS g ng (jI wn)) nd 6 = sumS g nd 6 := sumS_cg (fun i hi => e _ (by omega) (by omega))
    have s7 : sumS (gateS g ng (jI wn)) nd 7 = sumS g nd 7 := sumS_cg (fun i hi => e _ (by omega) (by omega))
    have dk : ∀ k, drkS (gateS g ng (jI wn)) k nd = drkS g k nd := fun k => drkS_cg (fun i hi => ⟨e _ (by omega) (by omega), e _ (by omega) (by omega)⟩)
    refine ⟨fun k hk => ?_, ?_, ?_, ?_⟩
    · rw [dk]
      by_cases q : k = ng
      · subst q
        rw [gateS_at, if_neg (by omega), if_neg (by omega), if_pos (by omega), gateS_at, if_neg (by omega), if_neg (by omega), if_pos (by omega), drk_none nd (fun i hi e => by
          obtain ⟨a, ha, ea⟩ := (QC_0 b1 hi).mp (b9 (75 + 9 * i))
          rw [ea, jI_inj (by omega) (by omega)] at e
          omega)]
        rfl
      · rw [e _ (by omega) (by omega), e _ (by omega) (by omega)]; exact a1 k (by omega)
    · rw [s6, s7, e 7 (by omega) (by omega), e 8 (by omega) (by omega), e 11 (by omega) (by omega)]; exact a2
    · rw [s6, e 9 (by omega) (by omega)]; exact a3
    · rw [s7, e 10 (by omega) (by omega)]; exact a4
theorem snd_garden {gt : Nat} {bd sh co : Int32} (hS : Snd (g, oh, ng, nd, nc, h)) (hn : nd < 12) (hgt : gt < ng) (h1 : rng bd 1 20) (h2 : rng sh 1 9) : Snd (garS g nd gt bd sh co, oh, ng, nd + 1, nc, h) := by
  obtain ⟨hB, hO, hN, hA⟩ := Snd_of hS
  have hB' : Cb g ng nd nc h := hB
  obtain ⟨b1, b2, b3, b4, b5, b6, b7, ⟨wi, hwi, b8⟩, b9⟩ := hB'
  obtain ⟨bn, rfl, u1, u2'⟩ := rng_of h1 (by decide) (by decide)
  obtain ⟨sn, rfl, v1, v2⟩ := rng_of h2 (by decide) (by decide)
  have e : ∀ c, c ≠ 4 → ¬ (75 + 9 * nd ≤ c ∧ c < 75 + 9 * nd + 9) → garS g nd gt (jI bn) (jI sn) co c = g c := fun c h1 h2 => by
    rw [garS_at, if_neg (by omega), if_neg (by omega), if_neg (by omega), if_neg (by omega), if_neg (by omega), if_neg h2, if_neg h1]
  have z : ∀ c, 75 + 9 * nd + 4 ≤ c → c < 75 + 9 * nd + 8 → garS g nd gt (jI bn) (jI sn) co c = jI 0 := fun c h1 h2 => by
    rw [garS_at, if_neg (by omega), if_neg (by omega), if_neg (by omega), if_neg (by omega), if_neg (by omega), if_pos (by omega)]
  refine Snd_mk ⟨b1, by omega, b3, ?_, ?_, ?_, ?_, ⟨wi, hwi, ?_⟩, fun c => ?_⟩ (hO.of (fun k p hk hp => e _ (by omega) (by omega))) (fun j hj => (e j (by omega) (by omega)).trans (hN j hj)) ?_
  · exact (e 0 (by omega) (by omega)).trans b4
  · exact (e 3 (by omega) (by omega)).trans b5
  · rw [garS_at, if_neg (by omega), if_neg (by omega), if_neg (by omega), if_neg (by omega), if_neg (by omega), if_neg (by omega), if_pos rfl]
  · exact (e 5 (by omega) (by omega)).trans b7
  · exact (e 1 (by omega) (by omega)).trans b8
  · by_cases q : 75 + 9 * nd ≤ c ∧ c < 75 + 9 * nd + 9
    · have : c = 75 + 9 * nd ∨ c = 75 + 9 * nd + 1 ∨ c = 75 + 9 * nd + 2 ∨ c = 75 + 9 * nd + 3 ∨ c = 75 + 9 * nd + 4 ∨ c = 75 + 9 * nd + 5 ∨ c = 75 + 9 * nd + 6 ∨ c = 75 + 9 * nd + 7 ∨ c = 75 + 9 * nd + 8 := by omega
      rcases this with rfl | rfl | rfl | rfl | rfl | rfl | rfl | rfl | rfl
      · refine (QC_0 b1 (by omega)).mpr ⟨gt, hgt, ?_⟩
        rw [garS_at, if_neg (by omega), if_neg (by omega), if_neg (by omega), if_neg (by omega), if_pos rfl]
      · refine (QC_1 b1 (by omega)).mpr ⟨bn, u2', ?_⟩
        rw [garS_at, if_neg (by omega), if_neg (by omega), if_neg (by omega), if_pos rfl]
      · refine (QC_2 b1 (by omega)).mpr ⟨sn, v1, v2, ?_⟩
        rw [garS_at, if_neg (by omega), if_neg (by omega), if_pos rfl]
      · exact QC_o (by omega)
      · exact (QC_4 b1 (by omega)).mpr ⟨0, by omega, z _ (by omega) (by omega)⟩
      · exact (QC_5 b1 (by omega)).mpr (Or.inl (z _ (by omega) (by omega)))
      · exact QC_o (by omega)
      · exact QC_o (by omega)
      · refine (QC_8 b1 (by omega)).mpr (Or.inl ?_)
        rw [garS_at, if_pos rfl]
    · by_cases q4 : c = 4
      · subst q4; exact QC_o (by omega)
      · rw [e c q4 q]
        exact QC_mono (Nat.le_refl _) (by omega) (Nat.le_refl _) b1 (by omega) ⟨by omega, by omega, by omega⟩ (b9 c)
  · obtain ⟨a1, a2, a3, a4⟩ := hA
    have s6 : sumS (garS g nd gt (jI bn) (jI sn) co) (nd + 1) 6 = sumS g nd 6 := by
      have q : ∀ g : Gr, sumS g (nd + 1) 6 = sumS g nd 6 + g (75 + 9 * nd + 6) := fun _ => rfl
      rw [q, z _ (by omega) (by omega), sumS_cg (g := g) (fun i hi => e _ (by omega) (by omega))]
      exact Int32.add_zero _
    have s7 : sumS (garS g nd gt (jI bn) (jI sn) co) (nd + 1) 7 = sumS g nd 7 := by
      have q : ∀ g : Gr, sumS g (nd + 1) 7 = sumS g nd 7 + g (75 + 9 * nd + 7) := fun _ => rfl
      rw [q, z _ (by omega) (by omega), sumS_cg (g := g) (fun i hi => e _ (by omega) (by omega))]
      exact Int32.add_zero _
    have dk : ∀ k, drkS (garS g nd gt (jI bn) (jI sn) co) k (nd + 1) = drkS g k nd := fun k => by
      rw [drk_s, z (75 + 9 * nd + 6) (by omega) (by omega), ite_self, drkS_cg (g := g) (fun i hi => ⟨e _ (by omega) (by omega), e _ (by omega) (by omega)⟩)]
      exact Int32.add_zero _
    refine ⟨fun k hk => ?_, ?_, ?_, ?_⟩
    · skip
      rw [dk, e _ (by omega) (by omega), e _ (by omega) (by omega)]; exact a1 k hk
    · rw [s6, s7, e 7 (by omega) (by omega), e 8 (by omega) (by omega), e 11 (by omega) (by omega)]; exact a2
    · rw [s6, e 9 (by omega) (by omega)]; exact a3
    · rw [s7, e 10 (by omega) (by omega)]; exact a4
theorem snd_ord {r : Rc} {s s' : Sg} (hS : Snd (s.1, s.2.1, ng, nd, s.2.2.1, s.2.2.2)) (hh : s.2.2.2 < 1000000000) (h : ordX ng nd r s = .inl s') : Snd (s'.1, s'.2.1, ng, nd, s'.2.2.1, s'.2.2.2) := by
  obtain ⟨g, oh, nc, hr⟩ := s
  have hB' : Cb g ng nd nc hr := hS.1
  have hnc := hB'.2.2.1
  dsimp only at hh hS ⊢
  unfold ordX at h
  dsimp only at h
  split at h
  · split at h
    · next q =>
      cases h
      exact snd_open hS q.1 (by omega)
    · cases h
  · split at h
    · split at h
      · next q =>
        cases h
        exact snd_hours hS (by omega)
      · cases h
    · split at h
      · split at h
        · next q =>
          cases h
          exact snd_inf hS q
        · cases h
      · split at h
        · split at h
          · next q =>
            split at h
            · cases h
            · split at h
              · cases h
              · next q2 =>
                cases h
                exact snd_cpl hS (by omega) q.1 q.2.1
          · cases h
        · split at h
          · next q =>
            split at h
            · cases h
            · split at h
              · cases h
              · split at h
                · cases h
                · cases h
                  exact snd_rep hS q
          · cases h
theorem snd_run : ∀ (l : List Rc) {s s' : Sg}, Snd (s.1, s.2.1, ng, nd, s.2.2.1, s.2.2.2) → s.2.2.2 + 200 * l.length < 1000000000 → runX ng nd l s = .inl s' → Snd (s'.1, s'.2.1, ng, nd, s'.2.2.1, s'.2.2.2) ∧ s'.2.2.2 ≤ s.2.2.2 + 200 * l.length
  | [], s, s', hS, hh, h => by
    cases h
    exact ⟨hS, by simp⟩
  | r :: l, s, s', hS, hh, h => by
    have hh' : s.2.2.2 + 200 * (l.length + 1) < 1000000000 := hh
    have h' : (match ordX ng nd r s with | .inl s' => runX ng nd l s' | .inr e => .inr e) = .inl s' := h
    split at h'
    · next s1 he =>
      have h1 := snd_ord hS (by omega) he
      have h2 := ordX_le he
      have h3 := snd_run l h1 (by omega) h'
      refine ⟨h3.1, ?_⟩
      show s'.2.2.2 ≤ s.2.2.2 + 200 * (l.length + 1)
      have := h3.2
      omega
    · cases h'
theorem ordS_cnt {gt : Int32} : ∀ n, (ordS g gt n).2 = cntS (fun i => decide (g (75 + 9 * i) = gt)) n := by
  intro n
  induction n with
  | zero => rfl
  | succ n ih =>
    rw [ordS_s, cntS_s]
    by_cases q : g (75 + 9 * n) = gt
    · rw [if_pos q, if_pos (decide_eq_true q), ← ih]; rfl
    · rw [if_neg q, if_neg (fun e => q (of_decide_eq_true e))]; exact ih
theorem ahd_self {k : Nat} : ¬ ahd g k k := by
  unfold ahd
  intro e
  rcases e with e | ⟨_, e | ⟨_, e⟩⟩
  · exact Int32.lt_irrefl e
  · exact Int32.lt_irrefl e
  · exact Nat.lt_irrefl k e
theorem place_eq {k n : Nat} : cntS (fun i => decide (i ≠ k ∧ g (75 + 9 * i) = g (75 + 9 * k) ∧ ahd g i k)) n = cntS (fun i => decide (g (75 + 9 * i) = g (75 + 9 * k) ∧ ahd g i k)) n := by
  refine cntS_cg n (fun i hi => ?_)
  apply decide_eq_decide.mpr
  refine ⟨fun e => e.2, fun e => ⟨fun hk => ?_, e⟩⟩
  subst hk
  exact ahd_self e.2
end
