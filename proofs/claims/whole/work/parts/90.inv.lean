/-! THE LAW'S BEGINNING: nothing has happened -/
section
variable {xs : Nat → Int32}
def g00 : Gr := fun k => if k = 1 then jI 10 else if k = 2 then jI 5 else jI 0
def G00 : Ga := ((g00, fun _ _ => false, 0, 0, 0, 0), [], none, jI 0, jI 0, (fun _ => 0), 0, jm1)
theorem SCR_v : SCR = 1000000 := rfl
theorem g00_o {k : Nat} (h1 : k ≠ 1) (h2 : k ≠ 2) : g00 k = jI 0 := by unfold g00; rw [if_neg h1, if_neg h2]
theorem σI_o {a k : Nat} (hs : a ≠ SCR) (h0 : ¬ (a = 0 ∧ k = 7)) (h1 : ¬ (a = 368 ∧ k = 14)) (h2 : ¬ (a = 369 ∧ k = 1)) (h3 : ¬ (a = 369 ∧ k = 2)) (h4 : ¬ (isD a = true ∧ k = 10)) (h5 : ¬ (isD a = true ∧ k = 11)) (h6 : ¬ (isOr a = true ∧ k < 12)) : σI xs a k = jI 0 := by
  unfold σI
  rw [if_neg hs, if_neg h0, if_neg h1, if_neg h2, if_neg h3, if_neg h4, if_neg h5, if_neg h6]
theorem σI_369 : σI xs 369 = g00 := by
  funext k
  unfold σI g00
  rw [if_neg (by decide), if_neg (by omega), if_neg (by omega)]
  by_cases h1 : k = 1
  · rw [if_pos ⟨rfl, h1⟩, if_pos h1]
  · rw [if_neg (fun e => h1 e.2), if_neg h1]
    by_cases h2 : k = 2
    · rw [if_pos ⟨rfl, h2⟩, if_pos h2]
    · rw [if_neg (fun e => h2 e.2), if_neg h2, if_neg (fun e => absurd e.1 (by decide)), if_neg (fun e => absurd e.1 (by decide)), if_neg (fun e => absurd e.1 (by decide))]
theorem RD_00 : RD (σI xs) 1 g00 (fun _ _ => false) 0 0 0 := by
  refine ⟨?_, fun i hi => absurd hi (Nat.not_lt_zero i)⟩
  funext a k
  unfold LD
  cases e : ixL 1 0 0 0 a k with
  | none => rfl
  | some c =>
    show g00 c = σI xs a k
    unfold ixL at e
    split at e
    · next q =>
      obtain ⟨rfl, q1, q2⟩ := q
      simp only [Option.some.injEq] at e
      obtain rfl | rfl | rfl | rfl | rfl | rfl | rfl : k = 6 ∨ k = 7 ∨ k = 8 ∨ k = 9 ∨ k = 10 ∨ k = 11 ∨ k = 12 := by omega
      all_goals (subst e; rfl)
    · split at e
      · next q =>
        obtain ⟨rfl, q1⟩ := q
        simp only [Option.some.injEq] at e
        subst e
        rw [g00_o (by omega) (by omega), σI_o (by decide) (by omega) (by omega) (by omega) (by omega) (fun e => absurd e.1 (by decide)) (fun e => absurd e.1 (by decide)) (fun e => absurd e.1 (by decide))]
      · split at e
        · next q => exfalso; omega
        · split at e
          · next q => exfalso; omega
          · split at e
            · next q => exfalso; omega
            · split at e
              · next q => exfalso; omega
              · cases e
theorem L00 : LInv 0 (σI xs) G00 := by
  refine ⟨⟨RD_00, ⟨0, by decide, Nat.zero_le _, rfl, rfl, fun j s hj => by cases hj⟩, rfl, fun t ht => (by cases ht), rfl, rfl, ⟨Nat.zero_le _, rfl, fun k hk => absurd hk (Nat.not_lt_zero k)⟩, rfl⟩,
    ⟨σI_369, ⟨Nat.zero_le _, rfl, fun j s hj => by cases hj⟩, rfl, fun t ht => (by cases ht), rfl, rfl, rfl, ⟨Nat.zero_le _, rfl, fun k hk => absurd hk (Nat.not_lt_zero k)⟩, rfl⟩,
    ⟨⟨⟨⟨Nat.zero_le _, Nat.zero_le _, Nat.zero_le _, rfl, rfl, rfl, rfl, ⟨10, by decide, rfl⟩, fun c => ?_⟩, fun k h hk hh => ?_, fun k hk => g00_o (by omega) (by omega), ⟨fun k hk => absurd hk (Nat.not_lt_zero k), rfl, rfl, rfl⟩⟩, Nat.le_refl _⟩, fun s hs => (by cases hs), fun t ht => (by cases ht)⟩⟩
  · show QC 0 0 0 c (g00 c)
    unfold QC
    rw [if_neg (by omega), if_neg (by omega), if_neg (by omega), if_neg (by omega), if_neg (by omega), if_neg (by omega), if_neg (by omega), if_neg (by omega), if_neg (by omega)]
    trivial
  · show (g00 (15 + 10 * k + (4 + h / 28)) >>> (jI (h % 28) &&& 31)) &&& jI 1 = jI 1 ↔ false = true
    rw [g00_o (by omega) (by omega), bit_iff (by omega), bt_0]
end
