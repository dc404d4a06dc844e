/-! WATER IS RECKONED: what each change keeps -/
set_option maxRecDepth 16384
section
variable {g g' : Gr} {oh : Nat → Nat → Bool} {ng nd nc h i : Nat}
theorem rg1 {a b c d e x l : Int32} (h : a = b + c + d + e + x) : a = b + l + c + d + e + (x - l) := by grind
theorem rg2 {t tk dr b l n : Int32} (h : t + tk = dr + b + l) : t + tk = dr + n + b + (l - n) := by grind
theorem rg3 {a b c d e x tk l n : Int32} (h : a = b + c + d + e + (x - tk + l)) : a = b + (c + n) + d + e + (x - tk + (l - n)) := by grind
theorem rg4 {a b c d e x tk l : Int32} (h : a = b + c + d + e + (x - tk + l)) : a = b + c + d + e + (x + (l - tk)) := by grind
theorem rg4' {a b c d e x tk : Int32} (h : a = b + c + d + e + x) : a = b + c + d + e + (x - tk + tk) := by grind
theorem rg5 {a b c d e x : Int32} (h : a = b + c + d + e + x) : a = b + c + d + (e + x) := by grind
theorem rg6 {a b c d e x n : Int32} (h : a = b + c + d + e + x) : a = b + c + (d + n) + e + (x - n) := by grind
theorem rg7 {t tk dr b l : Int32} (h : t + tk = dr + b + l) : t + tk = dr + (b + l) := by grind
theorem rg7' {t tk dr b : Int32} (h : t = dr + b) : t + tk = dr + b + tk := by grind
theorem rg8 {t dr b k : Int32} (h : t = dr + b) : k + dr = k + (t - b) := by grind
theorem rg9 {a b c d e x : Int32} (h : a = b + c + d + e) : a + x = b + c + d + e + x := by grind
theorem rgA {a b c x y : Int32} (h : a = b + c) : a + x + y = b + x + (c + y) := by grind
theorem sumS_cg {n w : Nat} (e : ∀ i, i < n → g' (75 + 9 * i + w) = g (75 + 9 * i + w)) : sumS g' n w = sumS g n w := by
  induction n with
  | zero =>
    have z : ∀ g : Gr, sumS g 0 w = jI 0 := fun _ => rfl
    rw [z, z]
  | succ n ih =>
    have z : ∀ g : Gr, sumS g (n + 1) w = sumS g n w + g (75 + 9 * n + w) := fun _ => rfl
    rw [z, z, ih (fun i hi => e i (by omega)), e n (by omega)]
theorem drk_s {k n : Nat} : drkS g k (n + 1) = drkS g k n + (if g (75 + 9 * n) = jI k then g (75 + 9 * n + 6) else jI 0) := rfl
theorem drkS_cg {k n : Nat} (e : ∀ i, i < n → g' (75 + 9 * i) = g (75 + 9 * i) ∧ g' (75 + 9 * i + 6) = g (75 + 9 * i + 6)) : drkS g' k n = drkS g k n := by
  induction n with
  | zero =>
    have z : ∀ g : Gr, drkS g k 0 = jI 0 := fun _ => rfl
    rw [z, z]
  | succ n ih =>
    rw [drk_s, drk_s, ih (fun i hi => e i (by omega)), (e n (by omega)).2]
    congr 1
    exact if_cg (e n (by omega)).1
theorem sumS_add {n w r : Nat} {v : Int32} (hr : r < n) (hw : w < 9) : sumS (gu g (75 + 9 * r + w) (g (75 + 9 * r + w) + v)) n w = sumS g n w + v := by
  induction n with
  | zero => omega
  | succ n ih =>
    have z : ∀ g : Gr, sumS g (n + 1) w = sumS g n w + g (75 + 9 * n + w) := fun _ => rfl
    rw [z, z]
    by_cases q : r = n
    · subst q
      rw [gu_at, sumS_cg (g := g) (fun i hi => gu_ne (by omega)), Int32.add_assoc]
    · rw [ih (by omega), gu_ne (by omega), Int32.add_assoc, Int32.add_comm v, ← Int32.add_assoc]
theorem drkS_add {n k r : Nat} {v : Int32} (hr : r < n) : drkS (gu g (75 + 9 * r + 6) (g (75 + 9 * r + 6) + v)) k n = drkS g k n + (if g (75 + 9 * r) = jI k then v else jI 0) := by
  induction n with
  | zero => omega
  | succ n ih =>
    rw [drk_s, drk_s, gu_ne (show 75 + 9 * n ≠ 75 + 9 * r + 6 by omega)]
    by_cases q : r = n
    · subst q
      rw [gu_at, drkS_cg (g := g) (fun i hi => ⟨gu_ne (by omega), gu_ne (by omega)⟩), Int32.add_assoc]
      congr 1
      by_cases e : g (75 + 9 * r) = jI k
      · rw [if_pos e, if_pos e, if_pos e]
      · rw [if_neg e, if_neg e, if_neg e]; rfl
    · rw [ih (by omega), gu_ne (by omega), Int32.add_assoc, Int32.add_comm (if g (75 + 9 * r) = jI k then v else jI 0), ← Int32.add_assoc]
/-- water on its way -/
def ACw (g : Gr) (ng nd : Nat) (x : Int32) : Prop := (∀ k, k < ng → g (15 + 10 * k + 2) = drkS g k nd + g (15 + 10 * k + 3)) ∧ g 7 = g 8 + sumS g nd 6 + sumS g nd 7 + g 11 + x ∧ g 9 = sumS g nd 6 ∧ g 10 = sumS g nd 7
theorem ACw_0 : ACt g ng nd ↔ ACw g ng nd 0 := by
  unfold ACt ACw
  rw [Int32.add_zero]
theorem ACw_cg {x : Int32} (hng : ng ≤ 6) (hnd : nd ≤ 12) (e : ∀ c, (7 ≤ c ∧ c < 12) ∨ (15 ≤ c ∧ c < 75 ∧ ((c - 15) % 10 = 2 ∨ (c - 15) % 10 = 3)) ∨ (75 ≤ c ∧ c < 75 + 9 * nd ∧ ((c - 75) % 9 = 0 ∨ (c - 75) % 9 = 6 ∨ (c - 75) % 9 = 7)) → g' c = g c) (hA : ACw g ng nd x) : ACw g' ng nd x := by
  obtain ⟨a1, a2, a3, a4⟩ := hA
  have s6 : sumS g' nd 6 = sumS g nd 6 := sumS_cg (fun i hi => e _ (by omega))
  have s7 : sumS g' nd 7 = sumS g nd 7 := sumS_cg (fun i hi => e _ (by omega))
  refine ⟨fun k hk => ?_, ?_, ?_, ?_⟩
  · rw [drkS_cg (g := g) (fun i hi => ⟨e _ (by omega), e _ (by omega)⟩), e _ (by omega), e _ (by omega)]; exact a1 k hk
  · rw [s6, s7, e 7 (by omega), e 8 (by omega), e 11 (by omega)]; exact a2
  · rw [s6, e 9 (by omega)]; exact a3
  · rw [s7, e 10 (by omega)]; exact a4
/-- while gate i waters -/
def ACi (g : Gr) (ng nd i : Nat) (l1 tk left : Int32) : Prop := (∀ k, k < ng → k ≠ i → g (15 + 10 * k + 2) = drkS g k nd + g (15 + 10 * k + 3)) ∧ g (15 + 10 * i + 2) + tk = drkS g i nd + g (15 + 10 * i + 3) + left ∧ g 7 = g 8 + sumS g nd 6 + sumS g nd 7 + g 11 + (l1 - tk + left) ∧ g 9 = sumS g nd 6 ∧ g 10 = sumS g nd 7
theorem ACi_step {r : Nat → Nat} {j : Nat} {l1 tk : Int32} {z : Gr × Int32} (hng : ng ≤ 6) (hnd : nd ≤ 12) (hi : i < ng) (hr : r j < nd) (ha : z.1 (75 + 9 * r j) = jI i) (hA : ACi z.1 ng nd i l1 tk z.2) : ACi (watStep r j z).1 ng nd i l1 tk (watStep r j z).2 := by
  unfold watStep
  dsimp only
  generalize drS z.1 (r j) z.2 = n
  obtain ⟨a1, a2, a3, a4, a5⟩ := hA
  have e6 : gu z.1 (75 + 9 * r j + 4) (z.1 (75 + 9 * r j + 4) - n) (75 + 9 * r j + 6) = z.1 (75 + 9 * r j + 6) := gu_ne (by omega)
  -- the row behind
  have hx : ∀ c, c ≠ 9 → c ≠ 75 + 9 * r j + 6 → c ≠ 75 + 9 * r j + 4 → gu (gu (gu z.1 (75 + 9 * r j + 4) (z.1 (75 + 9 * r j + 4) - n)) (75 + 9 * r j + 6) (gu z.1 (75 + 9 * r j + 4) (z.1 (75 + 9 * r j + 4) - n) (75 + 9 * r j + 6) + n)) 9 (gu (gu z.1 (75 + 9 * r j + 4) (z.1 (75 + 9 * r j + 4) - n)) (75 + 9 * r j + 6) (gu z.1 (75 + 9 * r j + 4) (z.1 (75 + 9 * r j + 4) - n) (75 + 9 * r j + 6) + n) 9 + n) c = z.1 c := fun c h1 h2 h3 => by
    rw [gu_ne h1, gu_ne h2, gu_ne h3]
  have e9 : gu (gu (gu z.1 (75 + 9 * r j + 4) (z.1 (75 + 9 * r j + 4) - n)) (75 + 9 * r j + 6) (gu z.1 (75 + 9 * r j + 4) (z.1 (75 + 9 * r j + 4) - n) (75 + 9 * r j + 6) + n)) 9 (gu (gu z.1 (75 + 9 * r j + 4) (z.1 (75 + 9 * r j + 4) - n)) (75 + 9 * r j + 6) (gu z.1 (75 + 9 * r j + 4) (z.1 (75 + 9 * r j + 4) - n) (75 + 9 * r j + 6) + n) 9 + n) 9 = z.1 9 + n := by
    rw [gu_at, gu_ne (by omega), gu_ne (by omega)]
  have g6 : gu z.1 (75 + 9 * r j + 4) (z.1 (75 + 9 * r j + 4) - n) = gu z.1 (75 + 9 * r j + 4) (z.1 (75 + 9 * r j + 4) - n) := rfl
  have s6 : sumS (gu (gu (gu z.1 (75 + 9 * r j + 4) (z.1 (75 + 9 * r j + 4) - n)) (75 + 9 * r j + 6) (gu z.1 (75 + 9 * r j + 4) (z.1 (75 + 9 * r j + 4) - n) (75 + 9 * r j + 6) + n)) 9 (gu (gu z.1 (75 + 9 * r j + 4) (z.1 (75 + 9 * r j + 4) - n)) (75 + 9 * r j + 6) (gu z.1 (75 + 9 * r j + 4) (z.1 (75 + 9 * r j + 4) - n) (75 + 9 * r j + 6) + n) 9 + n)) nd 6 = sumS z.1 nd 6 + n := by
    rw [sumS_cg (g := gu (gu z.1 (75 + 9 * r j + 4) (z.1 (75 + 9 * r j + 4) - n)) (75 + 9 * r j + 6) (gu z.1 (75 + 9 * r j + 4) (z.1 (75 + 9 * r j + 4) - n) (75 + 9 * r j + 6) + n)) (fun i hi => gu_ne (by omega)), sumS_add hr (by decide)]
    congr 1
    exact sumS_cg (fun i hi => gu_ne (by omega))
  have s7 : sumS (gu (gu (gu z.1 (75 + 9 * r j + 4) (z.1 (75 + 9 * r j + 4) - n)) (75 + 9 * r j + 6) (gu z.1 (75 + 9 * r j + 4) (z.1 (75 + 9 * r j + 4) - n) (75 + 9 * r j + 6) + n)) 9 (gu (gu z.1 (75 + 9 * r j + 4) (z.1 (75 + 9 * r j + 4) - n)) (75 + 9 * r j + 6) (gu z.1 (75 + 9 * r j + 4) (z.1 (75 + 9 * r j + 4) - n) (75 + 9 * r j + 6) + n) 9 + n)) nd 7 = sumS z.1 nd 7 := sumS_cg (fun i hi => hx _ (by omega) (by omega) (by omega))
  have dk : ∀ k, drkS (gu (gu (gu z.1 (75 + 9 * r j + 4) (z.1 (75 + 9 * r j + 4) - n)) (75 + 9 * r j + 6) (gu z.1 (75 + 9 * r j + 4) (z.1 (75 + 9 * r j + 4) - n) (75 + 9 * r j + 6) + n)) 9 (gu (gu z.1 (75 + 9 * r j + 4) (z.1 (75 + 9 * r j + 4) - n)) (75 + 9 * r j + 6) (gu z.1 (75 + 9 * r j + 4) (z.1 (75 + 9 * r j + 4) - n) (75 + 9 * r j + 6) + n) 9 + n)) k nd = drkS z.1 k nd + (if jI i = jI k then n else jI 0) := fun k => by
    rw [drkS_cg (g := gu (gu z.1 (75 + 9 * r j + 4) (z.1 (75 + 9 * r j + 4) - n)) (75 + 9 * r j + 6) (gu z.1 (75 + 9 * r j + 4) (z.1 (75 + 9 * r j + 4) - n) (75 + 9 * r j + 6) + n)) (fun i hi => ⟨gu_ne (by omega), gu_ne (by omega)⟩), drkS_add hr, gu_ne (show 75 + 9 * r j ≠ 75 + 9 * r j + 4 by omega), ha]
    congr 1
    exact drkS_cg (fun i hi => ⟨gu_ne (by omega), gu_ne (by omega)⟩)
  clear g6 e6
  generalize gu (gu (gu z.1 (75 + 9 * r j + 4) (z.1 (75 + 9 * r j + 4) - n)) (75 + 9 * r j + 6) (gu z.1 (75 + 9 * r j + 4) (z.1 (75 + 9 * r j + 4) - n) (75 + 9 * r j + 6) + n)) 9 (gu (gu z.1 (75 + 9 * r j + 4) (z.1 (75 + 9 * r j + 4) - n)) (75 + 9 * r j + 6) (gu z.1 (75 + 9 * r j + 4) (z.1 (75 + 9 * r j + 4) - n) (75 + 9 * r j + 6) + n) 9 + n) = y at *
  refine ⟨fun k hk hki => ?_, ?_, ?_, ?_, ?_⟩
  · have nik : ¬ jI i = jI k := fun e => hki ((jI_inj (by omega) (by omega)).mp e).symm
    rw [hx _ (by omega) (by omega) (by omega), hx _ (by omega) (by omega) (by omega), dk, if_neg nik, show drkS z.1 k nd + jI 0 = drkS z.1 k nd from Int32.add_zero _]
    exact a1 k hk hki
  · rw [hx _ (by omega) (by omega) (by omega), hx _ (by omega) (by omega) (by omega), dk, if_pos rfl]
    exact rg2 a2
  · rw [hx _ (by omega) (by omega) (by omega), hx _ (by omega) (by omega) (by omega), hx _ (by omega) (by omega) (by omega), s6, s7]
    exact rg3 a3
  · rw [e9, s6, a4]
  · rw [hx _ (by omega) (by omega) (by omega), s7]; exact a5
theorem ordS_at {gt : Int32} : ∀ n j, j < (ordS g gt n).2 → g (75 + 9 * (ordS g gt n).1 j) = gt := by
  have ins : ∀ (k p : Nat) (rr : Nat → Nat) (P : Nat → Prop) (c : Nat), p ≤ c → (∀ j, j ≤ c → j ≠ p → P (rr j)) → ∀ j, j ≤ c → j ≠ (insL g k rr p).2 → P ((insL g k rr p).1 j) := by
    intro k p
    induction p with
    | zero => exact fun rr P c _ hr => hr
    | succ p ih =>
      intro rr P c hp hr
      unfold insL
      by_cases ha : ahd g k (rr p)
      · rw [if_pos ha]
        refine ih _ P c (by omega) (fun j hj hne => ?_)
        by_cases hj1 : j = p + 1
        · rw [if_pos hj1]; exact hr p (by omega) (by omega)
        · rw [if_neg hj1]; exact hr j hj hj1
      · rw [if_neg ha]; exact hr
  intro n
  induction n with
  | zero => intro j hj; exact absurd hj (Nat.not_lt_zero j)
  | succ n ih =>
    intro j hj
    rw [ordS_s] at hj ⊢
    by_cases hg : g (75 + 9 * n) = gt
    · rw [if_pos hg] at hj ⊢
      have hj' : j < (ordS g gt n).2 + 1 := hj
      show g (75 + 9 * (if j = (insL g n (ordS g gt n).1 (ordS g gt n).2).2 then n else (insL g n (ordS g gt n).1 (ordS g gt n).2).1 j)) = gt
      by_cases hj2 : j = (insL g n (ordS g gt n).1 (ordS g gt n).2).2
      · rw [if_pos hj2]; exact hg
      · rw [if_neg hj2]
        exact ins n (ordS g gt n).2 (ordS g gt n).1 (fun x => g (75 + 9 * x) = gt) (ordS g gt n).2 (Nat.le_refl _) (fun q hq hne => ih q (by omega)) j (by omega) hj2
    · rw [if_neg hg] at hj ⊢
      exact ih j hj
theorem wat_at {r : Nat → Nat} {n k : Nat} {z : Gr × Int32} : (itN n (watStep r) z).1 (75 + 9 * k) = z.1 (75 + 9 * k) := by
  induction n with
  | zero => rfl
  | succ n ih =>
    rw [itN_succ, ← ih]
    generalize itN n (watStep r) z = y
    unfold watStep
    dsimp only
    rw [gu_ne (by omega), gu_ne (by omega), gu_ne (by omega)]
theorem ACi_N {r : Nat → Nat} {l1 tk : Int32} {z : Gr × Int32} (hng : ng ≤ 6) (hnd : nd ≤ 12) (hi : i < ng) (hA : ACi z.1 ng nd i l1 tk z.2) : ∀ n, (∀ j, j < n → r j < nd ∧ z.1 (75 + 9 * r j) = jI i) → ACi (itN n (watStep r) z).1 ng nd i l1 tk (itN n (watStep r) z).2
  | 0, _ => hA
  | n + 1, hr => by
    rw [itN_succ]
    refine ACi_step hng hnd hi (hr n (by omega)).1 ?_ (ACi_N hng hnd hi hA n (fun j hj => hr j (by omega)))
    rw [wat_at]
    exact (hr n (by omega)).2
theorem dwn_acc {hw : Nat} {z : Gr × Int32} (hng : ng ≤ 6) (hnd : nd ≤ 12) (hi : i < ng) (hA : ACw z.1 ng nd z.2) : ACw (dwnStep oh hw nd i z).1 ng nd (dwnStep oh hw nd i z).2 := by
  have leak : ∀ lk, ACw (gu z.1 8 (z.1 8 + lk)) ng nd (z.2 - lk) := fun lk => by
    obtain ⟨a1, a2, a3, a4⟩ := hA
    have e : ∀ c, c ≠ 8 → gu z.1 8 (z.1 8 + lk) c = z.1 c := fun c hc => gu_ne hc
    have s6 : sumS (gu z.1 8 (z.1 8 + lk)) nd 6 = sumS z.1 nd 6 := sumS_cg (fun i hi => e _ (by omega))
    have s7 : sumS (gu z.1 8 (z.1 8 + lk)) nd 7 = sumS z.1 nd 7 := sumS_cg (fun i hi => e _ (by omega))
    refine ⟨fun k hk => ?_, ?_, ?_, ?_⟩
    · rw [drkS_cg (g := z.1) (fun i hi => ⟨e _ (by omega), e _ (by omega)⟩), e _ (by omega), e _ (by omega)]; exact a1 k hk
    · rw [s6, s7, gu_at, e 7 (by omega), e 11 (by omega)]; exact rg1 a2
    · rw [s6, e 9 (by omega)]; exact a3
    · rw [s7, e 10 (by omega)]; exact a4
  by_cases ho : oh i hw = true
  · rw [dwn_eq (by omega) hnd ho]
    dsimp only
    have hA1 := leak ((z.2 * z.1 (15 + 10 * i + 1) + jI 99) / jI 100)
    generalize gu z.1 8 (z.1 8 + (z.2 * z.1 (15 + 10 * i + 1) + jI 99) / jI 100) = g1 at *
    generalize z.2 - (z.2 * z.1 (15 + 10 * i + 1) + jI 99) / jI 100 = l1 at *
    generalize mn (g1 (15 + 10 * i)) l1 = tk
    obtain ⟨a1, a2, a3, a4⟩ := hA1
    have hAi : ACi g1 ng nd i l1 tk tk := ⟨fun k hk _ => a1 k hk, rg7' (a1 i hi), rg4' a2, a3, a4⟩
    have hr : ∀ j, j < (ordS g1 (jI i) nd).2 → (ordS g1 (jI i) nd).1 j < nd ∧ g1 (75 + 9 * (ordS g1 (jI i) nd).1 j) = jI i := fun j hj => ⟨(ordS_lt nd).2 j hj, ordS_at nd j hj⟩
    have hW := ACi_N (z := (g1, tk)) hng hnd hi hAi _ hr
    generalize itN (ordS g1 (jI i) nd).2 (watStep (ordS g1 (jI i) nd).1) (g1, tk) = w at *
    obtain ⟨w1, w2, w3, w4, w5⟩ := hW
    have e : ∀ c, c ≠ 15 + 10 * i + 2 → c ≠ 15 + 10 * i + 3 → gu (gu w.1 (15 + 10 * i + 2) (w.1 (15 + 10 * i + 2) + tk)) (15 + 10 * i + 3) (gu w.1 (15 + 10 * i + 2) (w.1 (15 + 10 * i + 2) + tk) (15 + 10 * i + 3) + w.2) c = w.1 c := fun c h1 h2 => by rw [gu_ne h2, gu_ne h1]
    have e2 : gu (gu w.1 (15 + 10 * i + 2) (w.1 (15 + 10 * i + 2) + tk)) (15 + 10 * i + 3) (gu w.1 (15 + 10 * i + 2) (w.1 (15 + 10 * i + 2) + tk) (15 + 10 * i + 3) + w.2) (15 + 10 * i + 2) = w.1 (15 + 10 * i + 2) + tk := by rw [gu_ne (by omega), gu_at]
    have e3 : gu (gu w.1 (15 + 10 * i + 2) (w.1 (15 + 10 * i + 2) + tk)) (15 + 10 * i + 3) (gu w.1 (15 + 10 * i + 2) (w.1 (15 + 10 * i + 2) + tk) (15 + 10 * i + 3) + w.2) (15 + 10 * i + 3) = w.1 (15 + 10 * i + 3) + w.2 := by rw [gu_at, gu_ne (by omega)]
    generalize gu (gu w.1 (15 + 10 * i + 2) (w.1 (15 + 10 * i + 2) + tk)) (15 + 10 * i + 3) (gu w.1 (15 + 10 * i + 2) (w.1 (15 + 10 * i + 2) + tk) (15 + 10 * i + 3) + w.2) = y at *
    have s6 : sumS y nd 6 = sumS w.1 nd 6 := sumS_cg (fun i hi => e _ (by omega) (by omega))
    have s7 : sumS y nd 7 = sumS w.1 nd 7 := sumS_cg (fun i hi => e _ (by omega) (by omega))
    have dk : ∀ k, drkS y k nd = drkS w.1 k nd := fun k => drkS_cg (fun i hi => ⟨e _ (by omega) (by omega), e _ (by omega) (by omega)⟩)
    refine ⟨fun k hk => ?_, ?_, ?_, ?_⟩
    · rw [dk]
      by_cases q : k = i
      · subst q
        rw [e2, e3]; exact rg7 w2
      · rw [e _ (by omega) (by omega), e _ (by omega) (by omega)]; exact w1 k hk q
    · rw [s6, s7, e 7 (by omega) (by omega), e 8 (by omega) (by omega), e 11 (by omega) (by omega)]; exact rg4 w3
    · rw [s6, e 9 (by omega) (by omega)]; exact w4
    · rw [s7, e 10 (by omega) (by omega)]; exact w5
  · rw [dwn_no ho]
    exact leak _
theorem dwnN_acc {hw : Nat} {z : Gr × Int32} (hng : ng ≤ 6) (hnd : nd ≤ 12) (hA : ACw z.1 ng nd z.2) : ∀ n, n ≤ ng → ACw (itN n (dwnStep oh hw nd) z).1 ng nd (itN n (dwnStep oh hw nd) z).2
  | 0, _ => hA
  | n + 1, hn => by
    rw [itN_succ]
    exact dwn_acc hng hnd (by omega) (dwnN_acc hng hnd hA n (by omega))
theorem thv_acc {hv : Int32} {z : Gr × Int32} (hng : ng ≤ 6) (hnd : nd ≤ 12) (hi : i < nd) (hA : ACw z.1 ng nd z.2) : ACw (thvStep hv i z).1 ng nd (thvStep hv i z).2 := by
  unfold thvStep
  by_cases h1 : z.1 (75 + 9 * i + 5) = jI 0
  · rw [if_pos h1]; exact hA
  · rw [if_neg h1]
    dsimp only
    generalize drS z.1 i z.2 = n
    have hB : ACw (if jI 0 < n then gu (gu z.1 (75 + 9 * i + 4) (z.1 (75 + 9 * i + 4) - n)) (75 + 9 * i + 8) hv else gu z.1 (75 + 9 * i + 4) (z.1 (75 + 9 * i + 4) - n)) ng nd z.2 := by
      refine ACw_cg hng hnd (fun c hc => ?_) hA
      split
      · rw [gu_ne (by omega), gu_ne (by omega)]
      · rw [gu_ne (by omega)]
    generalize (if jI 0 < n then gu (gu z.1 (75 + 9 * i + 4) (z.1 (75 + 9 * i + 4) - n)) (75 + 9 * i + 8) hv else gu z.1 (75 + 9 * i + 4) (z.1 (75 + 9 * i + 4) - n)) = y at *
    obtain ⟨a1, a2, a3, a4⟩ := hB
    have e : ∀ c, c ≠ 10 → c ≠ 75 + 9 * i + 7 → gu (gu y (75 + 9 * i + 7) (y (75 + 9 * i + 7) + n)) 10 (gu y (75 + 9 * i + 7) (y (75 + 9 * i + 7) + n) 10 + n) c = y c := fun c h1 h2 => by rw [gu_ne h1, gu_ne h2]
    have s6 : sumS (gu (gu y (75 + 9 * i + 7) (y (75 + 9 * i + 7) + n)) 10 (gu y (75 + 9 * i + 7) (y (75 + 9 * i + 7) + n) 10 + n)) nd 6 = sumS y nd 6 := sumS_cg (fun i hi => e _ (by omega) (by omega))
    have s7 : sumS (gu (gu y (75 + 9 * i + 7) (y (75 + 9 * i + 7) + n)) 10 (gu y (75 + 9 * i + 7) (y (75 + 9 * i + 7) + n) 10 + n)) nd 7 = sumS y nd 7 + n := by
      rw [sumS_cg (g := gu y (75 + 9 * i + 7) (y (75 + 9 * i + 7) + n)) (fun i hi => gu_ne (by omega)), sumS_add hi (by decide)]
    refine ⟨fun k hk => ?_, ?_, ?_, ?_⟩
    · rw [drkS_cg (g := y) (fun i hi => ⟨e _ (by omega) (by omega), e _ (by omega) (by omega)⟩), e _ (by omega) (by omega), e _ (by omega) (by omega)]; exact a1 k hk
    · rw [s6, s7, e 7 (by omega) (by omega), e 8 (by omega) (by omega), e 11 (by omega) (by omega)]; exact rg6 a2
    · rw [s6, e 9 (by omega) (by omega)]; exact a3
    · rw [s7, gu_at, gu_ne (by omega), a4]
theorem thvN_acc {hv : Int32} {z : Gr × Int32} (hng : ng ≤ 6) (hnd : nd ≤ 12) (hA : ACw z.1 ng nd z.2) : ∀ n, n ≤ nd → ACw (itN n (thvStep hv) z).1 ng nd (itN n (thvStep hv) z).2
  | 0, _ => hA
  | n + 1, hn => by
    rw [itN_succ]
    exact thv_acc hng hnd (by omega) (thvN_acc hng hnd hA n (by omega))
theorem hrN_acc {x : Int32} (hng : ng ≤ 6) (hnd : nd ≤ 12) (hQ : QI g ng nd nc) (hA : ACw g ng nd x) : ∀ i, i ≤ nc → ACw (itN i (fun i g => hrS g (cA g i) (cB g i)) g) ng nd x
  | 0, _ => hA
  | i + 1, hi => by
    have ih := hrN_ty hng hnd hQ i (by omega)
    have iA := hrN_acc hng hnd hQ hA i (by omega)
    obtain ⟨a, b, ha, hb, ea, eb⟩ := cpl_of hng hnd ih (i := i) (by omega)
    have e1 := cA_of ea (by omega)
    have e2 := cB_of eb (by omega)
    rw [itN_succ, e1, e2]
    refine ACw_cg hng hnd (fun c hc => ?_) iA
    unfold hrS
    dsimp only
    split
    · rw [gu_ne (by omega), gu_ne (by omega), gu_ne (by omega), gu_ne (by omega), gu_ne (by omega), gu_ne (by omega)]
    · split
      · rw [gu_ne (by omega), gu_ne (by omega), gu_ne (by omega)]
      · rw [gu_ne (by omega)]
theorem thrS_o {n c : Nat} (hc : c < 75 ∨ (c - 75) % 9 ≠ 4) : thrS g n c = g c := by
  unfold thrS
  induction n with
  | zero => rfl
  | succ n ih => rw [itN_succ, gu_ne (by omega)]; exact ih
theorem hour_acc (hB : Cb g ng nd nc h) (hh : h < 2147483647) (hA : ACt g ng nd) : ACt (hourS oh ng nd nc h g) ng nd := by
  have k1 := hw1_ok hB
  obtain ⟨k4, k4'⟩ := hw4_ok (oh := oh) hB hh
  obtain ⟨hng, hnd, hnc, b4, b5, b6, b7, b8, b9⟩ := hB
  rw [ACw_0] at hA ⊢
  have a1 : ACw (hw1 g nd h) ng nd 0 := by
    refine ACw_cg hng hnd (fun c hc => ?_) hA
    unfold hw1
    split
    · rfl
    · exact thrS_o (by omega)
  have a2 : ACw (gu (hw1 g nd h) 7 (hw1 g nd h 7 + hw1 g nd h 1)) ng nd (gu (hw1 g nd h) 7 (hw1 g nd h 7 + hw1 g nd h 1) 1) := by
    rw [gu_ne (show 1 ≠ 7 by decide)]
    generalize hw1 g nd h = y at *
    generalize y 1 = x
    obtain ⟨q1, q2, q3, q4⟩ := a1
    have e : ∀ c, c ≠ 7 → gu y 7 (y 7 + x) c = y c := fun c h1 => gu_ne h1
    have s6 : sumS (gu y 7 (y 7 + x)) nd 6 = sumS y nd 6 := sumS_cg (fun i hi => e _ (by omega))
    have s7 : sumS (gu y 7 (y 7 + x)) nd 7 = sumS y nd 7 := sumS_cg (fun i hi => e _ (by omega))
    refine ⟨fun k hk => ?_, ?_, ?_, ?_⟩
    · rw [drkS_cg (g := y) (fun i hi => ⟨e _ (by omega), e _ (by omega)⟩), e _ (by omega), e _ (by omega)]; exact q1 k hk
    · rw [s6, s7, gu_at, e 8 (by omega), e 11 (by omega)]
      rw [Int32.add_zero] at q2
      exact rg9 q2
    · rw [s6, e 9 (by omega)]; exact q3
    · rw [s7, e 10 (by omega)]; exact q4
  have a3 : ACw (hw2 oh g ng nd h).1 ng nd (hw2 oh g ng nd h).2 := dwnN_acc (z := (gu (hw1 g nd h) 7 (hw1 g nd h 7 + hw1 g nd h 1), gu (hw1 g nd h) 7 (hw1 g nd h 7 + hw1 g nd h 1) 1)) hng hnd a2 ng (Nat.le_refl _)
  have a4 : ACw (hw3 oh g ng nd h).1 ng nd (hw3 oh g ng nd h).2 := by
    unfold hw3
    split
    · exact thvN_acc hng hnd a3 nd (Nat.le_refl _)
    · exact a3
  have a5 : ACw (hw4 oh g ng nd h) ng nd 0 := by
    unfold hw4
    generalize hw3 oh g ng nd h = z at *
    obtain ⟨q1, q2, q3, q4⟩ := a4
    have e : ∀ c, c ≠ 11 → gu z.1 11 (z.1 11 + z.2) c = z.1 c := fun c h1 => gu_ne h1
    have s6 : sumS (gu z.1 11 (z.1 11 + z.2)) nd 6 = sumS z.1 nd 6 := sumS_cg (fun i hi => e _ (by omega))
    have s7 : sumS (gu z.1 11 (z.1 11 + z.2)) nd 7 = sumS z.1 nd 7 := sumS_cg (fun i hi => e _ (by omega))
    refine ⟨fun k hk => ?_, ?_, ?_, ?_⟩
    · rw [drkS_cg (g := z.1) (fun i hi => ⟨e _ (by omega), e _ (by omega)⟩), e _ (by omega), e _ (by omega)]; exact q1 k hk
    · rw [s6, s7, gu_at, e 7 (by omega), e 8 (by omega), Int32.add_zero]; exact rg5 q2
    · rw [s6, e 9 (by omega)]; exact q3
    · rw [s7, e 10 (by omega)]; exact q4
  have a6 : ACw (hw5 oh g ng nd nc h) ng nd 0 := by
    unfold hw5
    split
    · unfold hrAll
      exact ACw_cg hng hnd (fun c hc => gu_ne (by omega)) (hrN_acc hng hnd k4 a5 nc (Nat.le_refl _))
    · exact a5
  rw [hour_hw]
  refine ACw_cg hng hnd (fun c hc => ?_) a6
  rw [gu_ne (by omega)]
  unfold hw6
  split
  · exact lkS_o (by omega) hng
  · rfl
theorem hours_acc (hB : Cb g ng nd nc h) (hA : ACt g ng nd) : ∀ n, h + n < 2147483647 → ACt (hoursS oh ng nd nc h g n).1 ng nd
  | 0, _ => hA
  | n + 1, hn => hour_acc (hoursS_cb (oh := oh) hB n (by omega)) (by omega) (hours_acc hB hA n (by omega))
theorem ACt_cg (hng : ng ≤ 6) (hnd : nd ≤ 12) (e : ∀ c, (7 ≤ c ∧ c < 12) ∨ (15 ≤ c ∧ c < 75 ∧ ((c - 15) % 10 = 2 ∨ (c - 15) % 10 = 3)) ∨ (75 ≤ c ∧ c < 75 + 9 * nd ∧ ((c - 75) % 9 = 0 ∨ (c - 75) % 9 = 6 ∨ (c - 75) % 9 = 7)) → g' c = g c) (hA : ACt g ng nd) : ACt g' ng nd := by
  rw [ACw_0] at hA ⊢
  exact ACw_cg hng hnd e hA
/-- all that the gates kept is what was drunk -/
theorem kept_all (hng : ng ≤ 6) (hQ : QI g ng nd nc) (hA : ACt g ng nd) : kpT g ng = sumS g nd 6 := by
  have key : ∀ m n, m ≤ ng → n ≤ nd → itN m (fun k v => v + drkS g k n) (jI 0) = itN n (fun i v => v + (if (g (75 + 9 * i)).toNatClampNeg < m then g (75 + 9 * i + 6) else jI 0)) (jI 0) := by
    intro m n hm hn
    induction n with
    | zero =>
      show itN m (fun k v => v + drkS g k 0) (jI 0) = jI 0
      have z : ∀ k, drkS g k 0 = jI 0 := fun _ => rfl
      clear hm
      induction m with
      | zero => rfl
      | succ m ih => rw [itN_succ, ih, z]; rfl
    | succ n ih =>
      rw [itN_succ, ← ih (by omega)]
      obtain ⟨a, ha, ea⟩ := (QC_0 hng (show n < nd by omega)).mp (hQ (75 + 9 * n))
      rw [ea, jI_tnc (by omega)]
      have hd : ∀ k, drkS g k (n + 1) = drkS g k n + (if jI a = jI k then g (75 + 9 * n + 6) else jI 0) := fun k => by rw [drk_s, ea]
      clear ih
      induction m with
      | zero => rw [if_neg (by omega)]; exact (Int32.add_zero _).symm
      | succ m ihm =>
        rw [itN_succ, itN_succ, ihm (by omega), hd]
        by_cases q : a < m
        · have nam : ¬ jI a = jI m := fun e => by
            have := (jI_inj (by omega) (by omega)).mp e
            omega
          rw [if_pos q, if_neg nam, if_pos (show a < m + 1 by omega), show drkS g m n + jI 0 = drkS g m n from Int32.add_zero _, Int32.add_assoc, Int32.add_comm (g (75 + 9 * n + 6)), ← Int32.add_assoc]
        · rw [if_neg q]
          by_cases q2 : a = m
          · subst q2
            rw [if_pos rfl, if_pos (by omega), ← Int32.add_assoc]
            congr 2
            exact Int32.add_zero _
          · rw [if_neg (fun e => q2 ((jI_inj (by omega) (by omega)).mp e)), if_neg (by omega), show drkS g m n + jI 0 = drkS g m n from Int32.add_zero _]
            show _ + jI 0 + _ = _ + _ + jI 0
            rw [show ∀ x : Int32, x + jI 0 = x from fun x => Int32.add_zero x, show ∀ x : Int32, x + jI 0 = x from fun x => Int32.add_zero x]
  have h1 : ∀ m, m ≤ ng → kpT g m = itN m (fun k v => v + drkS g k nd) (jI 0) := by
    intro m
    induction m with
    | zero => exact fun _ => rfl
    | succ m ih =>
      intro hm
      have e : kpT g (m + 1) = kpT g m + (g (15 + 10 * m + 2) - g (15 + 10 * m + 3)) := rfl
      rw [e, itN_succ, ih (by omega)]
      exact (rg8 (hA.1 m (by omega))).symm
  rw [h1 ng (Nat.le_refl _), key ng nd (Nat.le_refl _) (Nat.le_refl _)]
  have h2 : ∀ n, n ≤ nd → itN n (fun i v => v + (if (g (75 + 9 * i)).toNatClampNeg < ng then g (75 + 9 * i + 6) else jI 0)) (jI 0) = sumS g n 6 := by
    intro n
    induction n with
    | zero => exact fun _ => rfl
    | succ n ih =>
      intro hn
      have e : sumS g (n + 1) 6 = sumS g n 6 + g (75 + 9 * n + 6) := rfl
      obtain ⟨a, ha, ea⟩ := (QC_0 hng (show n < nd by omega)).mp (hQ (75 + 9 * n))
      rw [itN_succ, ih (by omega), e, ea, jI_tnc (by omega), if_pos ha]
  exact h2 nd (Nat.le_refl _)
end
