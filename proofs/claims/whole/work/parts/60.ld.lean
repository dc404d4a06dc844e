/-! THE CLASS: a ditch in the memory, as the numbers of the reference lay it -/
set_option maxRecDepth 16384
section
variable {σ : Nat → Nat → Int32} {g : Gr} {o ng nd nc i k a c : Nat} {v : Int32}
/-- which number a cell of the ditch at o holds -/
def ixL (o ng nd nc a k : Nat) : Option Nat :=
  if a = o ∧ 6 ≤ k ∧ k < 13 then some (if k < 9 then k - 3 else if k < 12 then k - 9 else 6)
  else if a = o + 6 ∧ k < 8 then some (7 + k)
  else if o + 7 ≤ a ∧ a < o + 7 + 2 * ng ∧ (a - o - 7) % 2 = 0 ∧ 1 ≤ k ∧ k < 5 then some (15 + 5 * (a - o - 7) + (k - 1))
  else if o + 19 ≤ a ∧ a < o + 19 + nd ∧ k < 9 then some (75 + 9 * (a - o - 19) + k)
  else if a = o + 3 ∧ k < nc then some (183 + 2 * k)
  else if a = o + 4 ∧ k < nc then some (184 + 2 * k)
  else none
def LD (σ : Nat → Nat → Int32) (o : Nat) (g : Gr) (ng nd nc : Nat) : Nat → Nat → Int32 := fun a k => match ixL o ng nd nc a k with
  | some c => g c
  | none => σ a k
theorem ixL_inj {a' k' : Nat} (hng : ng ≤ 6) (hnd : nd ≤ 12) (h : ixL o ng nd nc a k = some c) (h' : ixL o ng nd nc a' k' = some c) : a' = a ∧ k' = k := by
  unfold ixL at h h'
  split at h
  · simp only [Option.some.injEq] at h
    split at h'
    · simp only [Option.some.injEq] at h'
      split at h <;> split at h' <;> first | omega | (split at h <;> split at h' <;> omega) | (split at h <;> omega) | (split at h' <;> omega)
    · exfalso
      have : c ≤ 6 := by
        split at h
        · omega
        · split at h <;> omega
      split at h'
      · simp only [Option.some.injEq] at h'; omega
      · split at h'
        · simp only [Option.some.injEq] at h'; omega
        · split at h'
          · simp only [Option.some.injEq] at h'; omega
          · split at h'
            · simp only [Option.some.injEq] at h'; omega
            · split at h'
              · simp only [Option.some.injEq] at h'; omega
              · cases h'
  · split at h'
    · exfalso
      simp only [Option.some.injEq] at h'
      have : c ≤ 6 := by
        split at h'
        · omega
        · split at h' <;> omega
      split at h
      · simp only [Option.some.injEq] at h; omega
      · split at h
        · simp only [Option.some.injEq] at h; omega
        · split at h
          · simp only [Option.some.injEq] at h; omega
          · split at h
            · simp only [Option.some.injEq] at h; omega
            · split at h
              · simp only [Option.some.injEq] at h; omega
              · cases h
    · split at h
      · simp only [Option.some.injEq] at h
        split at h'
        · simp only [Option.some.injEq] at h'; omega
        · split at h'
          · simp only [Option.some.injEq] at h'; omega
          · split at h'
            · simp only [Option.some.injEq] at h'; omega
            · split at h'
              · simp only [Option.some.injEq] at h'; omega
              · split at h'
                · simp only [Option.some.injEq] at h'; omega
                · cases h'
      · split at h'
        · exfalso
          simp only [Option.some.injEq] at h'
          split at h
          · simp only [Option.some.injEq] at h; omega
          · split at h
            · simp only [Option.some.injEq] at h; omega
            · split at h
              · simp only [Option.some.injEq] at h; omega
              · split at h
                · simp only [Option.some.injEq] at h; omega
                · cases h
        · split at h
          · simp only [Option.some.injEq] at h
            split at h'
            · simp only [Option.some.injEq] at h'; omega
            · split at h'
              · simp only [Option.some.injEq] at h'; omega
              · split at h'
                · simp only [Option.some.injEq] at h'; omega
                · split at h'
                  · simp only [Option.some.injEq] at h'; omega
                  · cases h'
          · split at h
            · simp only [Option.some.injEq] at h
              split at h'
              · simp only [Option.some.injEq] at h'; omega
              · split at h'
                · simp only [Option.some.injEq] at h'; omega
                · split at h'
                  · simp only [Option.some.injEq] at h'; omega
                  · split at h'
                    · simp only [Option.some.injEq] at h'; omega
                    · cases h'
            · split at h
              · simp only [Option.some.injEq] at h
                split at h'
                · simp only [Option.some.injEq] at h'; omega
                · split at h'
                  · simp only [Option.some.injEq] at h'; omega
                  · split at h'
                    · simp only [Option.some.injEq] at h'; omega
                    · split at h'
                      · simp only [Option.some.injEq] at h'; omega
                      · cases h'
              · split at h
                · simp only [Option.some.injEq] at h
                  split at h'
                  · simp only [Option.some.injEq] at h'; omega
                  · split at h'
                    · simp only [Option.some.injEq] at h'; omega
                    · split at h'
                      · simp only [Option.some.injEq] at h'; omega
                      · split at h'
                        · simp only [Option.some.injEq] at h'; omega
                        · cases h'
                · cases h
theorem LD_at (h : ixL o ng nd nc a k = some c) : LD σ o g ng nd nc a k = g c := by unfold LD; rw [h]
theorem LD_no (h : ixL o ng nd nc a k = none) : LD σ o g ng nd nc a k = σ a k := by unfold LD; rw [h]
theorem LD_u (hng : ng ≤ 6) (hnd : nd ≤ 12) (h : ixL o ng nd nc a k = some c) : u2 (LD σ o g ng nd nc) a k v = LD σ o (gu g c v) ng nd nc := by
  funext a' k'
  unfold u2 LD
  by_cases e : a' = a ∧ k' = k
  · rw [if_pos e, e.1, e.2, h]
    exact gu_at.symm
  · rw [if_neg e]
    cases h' : ixL o ng nd nc a' k' with
    | none => rfl
    | some c' =>
      refine (gu_ne (fun ec => e ?_)).symm
      subst ec
      exact ixL_inj hng hnd h h'
theorem LD_un (h : ixL o ng nd nc a k = none) : u2 (LD σ o g ng nd nc) a k v = LD (u2 σ a k v) o g ng nd nc := by
  funext a' k'
  unfold u2 LD
  by_cases e : a' = a ∧ k' = k
  · rw [if_pos e, e.1, e.2, h]
    exact (if_pos ⟨rfl, rfl⟩).symm
  · rw [if_neg e]
    cases h' : ixL o ng nd nc a' k' with
    | none => exact (if_neg e).symm
    | some c' => rfl
theorem ix_s6 : ixL o ng nd nc o 6 = some 3 := if_pos ⟨rfl, by decide, by decide⟩
theorem LD_s6 : LD σ o g ng nd nc o 6 = g 3 := LD_at ix_s6
theorem LD_us6 (hng : ng ≤ 6) (hnd : nd ≤ 12) : u2 (LD σ o g ng nd nc) o 6 v = LD σ o (gu g 3 v) ng nd nc := LD_u hng hnd ix_s6
theorem ix_s7 : ixL o ng nd nc o 7 = some 4 := if_pos ⟨rfl, by decide, by decide⟩
theorem LD_s7 : LD σ o g ng nd nc o 7 = g 4 := LD_at ix_s7
theorem LD_us7 (hng : ng ≤ 6) (hnd : nd ≤ 12) : u2 (LD σ o g ng nd nc) o 7 v = LD σ o (gu g 4 v) ng nd nc := LD_u hng hnd ix_s7
theorem ix_s8 : ixL o ng nd nc o 8 = some 5 := if_pos ⟨rfl, by decide, by decide⟩
theorem LD_s8 : LD σ o g ng nd nc o 8 = g 5 := LD_at ix_s8
theorem LD_us8 (hng : ng ≤ 6) (hnd : nd ≤ 12) : u2 (LD σ o g ng nd nc) o 8 v = LD σ o (gu g 5 v) ng nd nc := LD_u hng hnd ix_s8
theorem ix_s9 : ixL o ng nd nc o 9 = some 0 := if_pos ⟨rfl, by decide, by decide⟩
theorem LD_s9 : LD σ o g ng nd nc o 9 = g 0 := LD_at ix_s9
theorem LD_us9 (hng : ng ≤ 6) (hnd : nd ≤ 12) : u2 (LD σ o g ng nd nc) o 9 v = LD σ o (gu g 0 v) ng nd nc := LD_u hng hnd ix_s9
theorem ix_s10 : ixL o ng nd nc o 10 = some 1 := if_pos ⟨rfl, by decide, by decide⟩
theorem LD_s10 : LD σ o g ng nd nc o 10 = g 1 := LD_at ix_s10
theorem LD_us10 (hng : ng ≤ 6) (hnd : nd ≤ 12) : u2 (LD σ o g ng nd nc) o 10 v = LD σ o (gu g 1 v) ng nd nc := LD_u hng hnd ix_s10
theorem ix_s11 : ixL o ng nd nc o 11 = some 2 := if_pos ⟨rfl, by decide, by decide⟩
theorem LD_s11 : LD σ o g ng nd nc o 11 = g 2 := LD_at ix_s11
theorem LD_us11 (hng : ng ≤ 6) (hnd : nd ≤ 12) : u2 (LD σ o g ng nd nc) o 11 v = LD σ o (gu g 2 v) ng nd nc := LD_u hng hnd ix_s11
theorem ix_s12 : ixL o ng nd nc o 12 = some 6 := if_pos ⟨rfl, by decide, by decide⟩
theorem LD_s12 : LD σ o g ng nd nc o 12 = g 6 := LD_at ix_s12
theorem LD_us12 (hng : ng ≤ 6) (hnd : nd ≤ 12) : u2 (LD σ o g ng nd nc) o 12 v = LD σ o (gu g 6 v) ng nd nc := LD_u hng hnd ix_s12
theorem ix_b (h : k < 8) : ixL o ng nd nc (bkA o) k = some (7 + k) := by unfold ixL bkA; rw [if_neg (by omega), if_pos (by omega)]
theorem LD_b0 : LD σ o g ng nd nc (bkA o) 0 = g 7 := LD_at (ix_b (by decide))
theorem LD_ub0 (hng : ng ≤ 6) (hnd : nd ≤ 12) : u2 (LD σ o g ng nd nc) (bkA o) 0 v = LD σ o (gu g 7 v) ng nd nc := LD_u hng hnd (ix_b (by decide))
theorem LD_b1 : LD σ o g ng nd nc (bkA o) 1 = g 8 := LD_at (ix_b (by decide))
theorem LD_ub1 (hng : ng ≤ 6) (hnd : nd ≤ 12) : u2 (LD σ o g ng nd nc) (bkA o) 1 v = LD σ o (gu g 8 v) ng nd nc := LD_u hng hnd (ix_b (by decide))
theorem LD_b2 : LD σ o g ng nd nc (bkA o) 2 = g 9 := LD_at (ix_b (by decide))
theorem LD_ub2 (hng : ng ≤ 6) (hnd : nd ≤ 12) : u2 (LD σ o g ng nd nc) (bkA o) 2 v = LD σ o (gu g 9 v) ng nd nc := LD_u hng hnd (ix_b (by decide))
theorem LD_b3 : LD σ o g ng nd nc (bkA o) 3 = g 10 := LD_at (ix_b (by decide))
theorem LD_ub3 (hng : ng ≤ 6) (hnd : nd ≤ 12) : u2 (LD σ o g ng nd nc) (bkA o) 3 v = LD σ o (gu g 10 v) ng nd nc := LD_u hng hnd (ix_b (by decide))
theorem LD_b4 : LD σ o g ng nd nc (bkA o) 4 = g 11 := LD_at (ix_b (by decide))
theorem LD_ub4 (hng : ng ≤ 6) (hnd : nd ≤ 12) : u2 (LD σ o g ng nd nc) (bkA o) 4 v = LD σ o (gu g 11 v) ng nd nc := LD_u hng hnd (ix_b (by decide))
theorem LD_b5 : LD σ o g ng nd nc (bkA o) 5 = g 12 := LD_at (ix_b (by decide))
theorem LD_ub5 (hng : ng ≤ 6) (hnd : nd ≤ 12) : u2 (LD σ o g ng nd nc) (bkA o) 5 v = LD σ o (gu g 12 v) ng nd nc := LD_u hng hnd (ix_b (by decide))
theorem LD_b6 : LD σ o g ng nd nc (bkA o) 6 = g 13 := LD_at (ix_b (by decide))
theorem LD_ub6 (hng : ng ≤ 6) (hnd : nd ≤ 12) : u2 (LD σ o g ng nd nc) (bkA o) 6 v = LD σ o (gu g 13 v) ng nd nc := LD_u hng hnd (ix_b (by decide))
theorem LD_b7 : LD σ o g ng nd nc (bkA o) 7 = g 14 := LD_at (ix_b (by decide))
theorem LD_ub7 (hng : ng ≤ 6) (hnd : nd ≤ 12) : u2 (LD σ o g ng nd nc) (bkA o) 7 v = LD σ o (gu g 14 v) ng nd nc := LD_u hng hnd (ix_b (by decide))
theorem ix_g (hi : i < ng) (h1 : 1 ≤ k) (h : k < 5) : ixL o ng nd nc (gA o i) k = some (15 + 10 * i + (k - 1)) := by unfold ixL gA; rw [if_neg (by omega), if_neg (by omega), if_pos (by omega)]; congr 1; omega
theorem LD_g1 (hi : i < ng) : LD σ o g ng nd nc (gA o i) 1 = g (15 + 10 * i) := LD_at (ix_g hi (by decide) (by decide))
theorem LD_ug1 (hng : ng ≤ 6) (hnd : nd ≤ 12) (hi : i < ng) : u2 (LD σ o g ng nd nc) (gA o i) 1 v = LD σ o (gu g (15 + 10 * i) v) ng nd nc := LD_u hng hnd (ix_g hi (by decide) (by decide))
theorem LD_g2 (hi : i < ng) : LD σ o g ng nd nc (gA o i) 2 = g (15 + 10 * i + 1) := LD_at (ix_g hi (by decide) (by decide))
theorem LD_ug2 (hng : ng ≤ 6) (hnd : nd ≤ 12) (hi : i < ng) : u2 (LD σ o g ng nd nc) (gA o i) 2 v = LD σ o (gu g (15 + 10 * i + 1) v) ng nd nc := LD_u hng hnd (ix_g hi (by decide) (by decide))
theorem LD_g3 (hi : i < ng) : LD σ o g ng nd nc (gA o i) 3 = g (15 + 10 * i + 2) := LD_at (ix_g hi (by decide) (by decide))
theorem LD_ug3 (hng : ng ≤ 6) (hnd : nd ≤ 12) (hi : i < ng) : u2 (LD σ o g ng nd nc) (gA o i) 3 v = LD σ o (gu g (15 + 10 * i + 2) v) ng nd nc := LD_u hng hnd (ix_g hi (by decide) (by decide))
theorem LD_g4 (hi : i < ng) : LD σ o g ng nd nc (gA o i) 4 = g (15 + 10 * i + 3) := LD_at (ix_g hi (by decide) (by decide))
theorem LD_ug4 (hng : ng ≤ 6) (hnd : nd ≤ 12) (hi : i < ng) : u2 (LD σ o g ng nd nc) (gA o i) 4 v = LD σ o (gu g (15 + 10 * i + 3) v) ng nd nc := LD_u hng hnd (ix_g hi (by decide) (by decide))
theorem ix_n (hng : ng ≤ 6) (hi : i < nd) (h : k < 9) : ixL o ng nd nc (nA o i) k = some (75 + 9 * i + k) := by unfold ixL nA; rw [if_neg (by omega), if_neg (by omega), if_neg (by omega), if_pos (by omega)]; congr 1; omega
theorem LD_n0 (hng : ng ≤ 6) (hi : i < nd) : LD σ o g ng nd nc (nA o i) 0 = g (75 + 9 * i) := LD_at (ix_n hng hi (by decide))
theorem LD_un0 (hng : ng ≤ 6) (hnd : nd ≤ 12) (hi : i < nd) : u2 (LD σ o g ng nd nc) (nA o i) 0 v = LD σ o (gu g (75 + 9 * i) v) ng nd nc := LD_u hng hnd (ix_n hng hi (by decide))
theorem LD_n1 (hng : ng ≤ 6) (hi : i < nd) : LD σ o g ng nd nc (nA o i) 1 = g (75 + 9 * i + 1) := LD_at (ix_n hng hi (by decide))
theorem LD_un1 (hng : ng ≤ 6) (hnd : nd ≤ 12) (hi : i < nd) : u2 (LD σ o g ng nd nc) (nA o i) 1 v = LD σ o (gu g (75 + 9 * i + 1) v) ng nd nc := LD_u hng hnd (ix_n hng hi (by decide))
theorem LD_n2 (hng : ng ≤ 6) (hi : i < nd) : LD σ o g ng nd nc (nA o i) 2 = g (75 + 9 * i + 2) := LD_at (ix_n hng hi (by decide))
theorem LD_un2 (hng : ng ≤ 6) (hnd : nd ≤ 12) (hi : i < nd) : u2 (LD σ o g ng nd nc) (nA o i) 2 v = LD σ o (gu g (75 + 9 * i + 2) v) ng nd nc := LD_u hng hnd (ix_n hng hi (by decide))
theorem LD_n3 (hng : ng ≤ 6) (hi : i < nd) : LD σ o g ng nd nc (nA o i) 3 = g (75 + 9 * i + 3) := LD_at (ix_n hng hi (by decide))
theorem LD_un3 (hng : ng ≤ 6) (hnd : nd ≤ 12) (hi : i < nd) : u2 (LD σ o g ng nd nc) (nA o i) 3 v = LD σ o (gu g (75 + 9 * i + 3) v) ng nd nc := LD_u hng hnd (ix_n hng hi (by decide))
theorem LD_n4 (hng : ng ≤ 6) (hi : i < nd) : LD σ o g ng nd nc (nA o i) 4 = g (75 + 9 * i + 4) := LD_at (ix_n hng hi (by decide))
theorem LD_un4 (hng : ng ≤ 6) (hnd : nd ≤ 12) (hi : i < nd) : u2 (LD σ o g ng nd nc) (nA o i) 4 v = LD σ o (gu g (75 + 9 * i + 4) v) ng nd nc := LD_u hng hnd (ix_n hng hi (by decide))
theorem LD_n5 (hng : ng ≤ 6) (hi : i < nd) : LD σ o g ng nd nc (nA o i) 5 = g (75 + 9 * i + 5) := LD_at (ix_n hng hi (by decide))
theorem LD_un5 (hng : ng ≤ 6) (hnd : nd ≤ 12) (hi : i < nd) : u2 (LD σ o g ng nd nc) (nA o i) 5 v = LD σ o (gu g (75 + 9 * i + 5) v) ng nd nc := LD_u hng hnd (ix_n hng hi (by decide))
theorem LD_n6 (hng : ng ≤ 6) (hi : i < nd) : LD σ o g ng nd nc (nA o i) 6 = g (75 + 9 * i + 6) := LD_at (ix_n hng hi (by decide))
theorem LD_un6 (hng : ng ≤ 6) (hnd : nd ≤ 12) (hi : i < nd) : u2 (LD σ o g ng nd nc) (nA o i) 6 v = LD σ o (gu g (75 + 9 * i + 6) v) ng nd nc := LD_u hng hnd (ix_n hng hi (by decide))
theorem LD_n7 (hng : ng ≤ 6) (hi : i < nd) : LD σ o g ng nd nc (nA o i) 7 = g (75 + 9 * i + 7) := LD_at (ix_n hng hi (by decide))
theorem LD_un7 (hng : ng ≤ 6) (hnd : nd ≤ 12) (hi : i < nd) : u2 (LD σ o g ng nd nc) (nA o i) 7 v = LD σ o (gu g (75 + 9 * i + 7) v) ng nd nc := LD_u hng hnd (ix_n hng hi (by decide))
theorem LD_n8 (hng : ng ≤ 6) (hi : i < nd) : LD σ o g ng nd nc (nA o i) 8 = g (75 + 9 * i + 8) := LD_at (ix_n hng hi (by decide))
theorem LD_un8 (hng : ng ≤ 6) (hnd : nd ≤ 12) (hi : i < nd) : u2 (LD σ o g ng nd nc) (nA o i) 8 v = LD σ o (gu g (75 + 9 * i + 8) v) ng nd nc := LD_u hng hnd (ix_n hng hi (by decide))
theorem LD_cp (hi : i < nc) : LD σ o g ng nd nc (cpA o) i = g (183 + 2 * i) := LD_at (by unfold ixL cpA; rw [if_neg (by omega), if_neg (by omega), if_neg (by omega), if_neg (by omega), if_pos (by omega)])
theorem LD_ac (hi : i < nc) : LD σ o g ng nd nc (acA o) i = g (184 + 2 * i) := LD_at (by unfold ixL acA; rw [if_neg (by omega), if_neg (by omega), if_neg (by omega), if_neg (by omega), if_neg (by omega), if_pos (by omega)])
theorem ix_or {j : Nat} : ixL o ng nd nc (orA o) j = none := by unfold ixL orA; rw [if_neg (by omega), if_neg (by omega), if_neg (by omega), if_neg (by omega), if_neg (by omega), if_neg (by omega)]
theorem LD_or {j : Nat} : LD σ o g ng nd nc (orA o) j = σ (orA o) j := LD_no ix_or
theorem LD_uor {j : Nat} : u2 (LD σ o g ng nd nc) (orA o) j v = LD (u2 σ (orA o) j v) o g ng nd nc := LD_un ix_or
theorem ix_oh {j : Nat} (hng : ng ≤ 6) (hi : i < 6) : ixL o ng nd nc (ohA o i) j = none := by unfold ixL ohA; rw [if_neg (by omega), if_neg (by omega), if_neg (by omega), if_neg (by omega), if_neg (by omega), if_neg (by omega)]
theorem LD_oh {j : Nat} (hng : ng ≤ 6) (hi : i < 6) : LD σ o g ng nd nc (ohA o i) j = σ (ohA o i) j := LD_no (ix_oh hng hi)
theorem LD_uoh {j : Nat} (hng : ng ≤ 6) (hi : i < 6) : u2 (LD σ o g ng nd nc) (ohA o i) j v = LD (u2 σ (ohA o i) j v) o g ng nd nc := LD_un (ix_oh hng hi)
/-- cells outside -/
theorem ix_out (hng : ng ≤ 6) (hnd : nd ≤ 12) (ha : a < o ∨ o + 31 ≤ a) : ixL o ng nd nc a k = none := by unfold ixL; rw [if_neg (by omega), if_neg (by omega), if_neg (by omega), if_neg (by omega), if_neg (by omega), if_neg (by omega)]
theorem LD_out (hng : ng ≤ 6) (hnd : nd ≤ 12) (ha : a < o ∨ o + 31 ≤ a) : LD σ o g ng nd nc a k = σ a k := LD_no (ix_out hng hnd ha)
theorem LD_uout (hng : ng ≤ 6) (hnd : nd ≤ 12) (ha : a < o ∨ o + 31 ≤ a) : u2 (LD σ o g ng nd nc) a k v = LD (u2 σ a k v) o g ng nd nc := LD_un (ix_out hng hnd ha)
/-- the hours of the gates -/
def OHc (σ : Nat → Nat → Int32) (o ng : Nat) (oh : Nat → Nat → Bool) : Prop := ∀ i, i < ng → (∀ x, x < 168 → bt (σ (ohA o i) (x / 24)) (x % 24) = oh i x) ∧ ∀ d r, d < 7 → 24 ≤ r → bt (σ (ohA o i) d) r = false
/-- a ditch lies at o -/
def RD (σ : Nat → Nat → Int32) (o : Nat) (g : Gr) (oh : Nat → Nat → Bool) (ng nd nc : Nat) : Prop := LD σ o g ng nd nc = σ ∧ OHc σ o ng oh
theorem LD_cg {g' : Gr} (h : ∀ k, (k < 15 ∨ (15 ≤ k ∧ k < 15 + 10 * ng ∧ (k - 15) % 10 < 4) ∨ (75 ≤ k ∧ k < 75 + 9 * nd) ∨ (183 ≤ k ∧ k < 183 + 2 * nc)) → g' k = g k) : LD σ o g' ng nd nc = LD σ o g ng nd nc := by
  funext a k
  unfold LD
  cases e : ixL o ng nd nc a k with
  | none => rfl
  | some c =>
    refine h c ?_
    unfold ixL at e
    split at e
    · simp only [Option.some.injEq] at e; left; split at e <;> first | omega | (split at e <;> omega)
    · split at e
      · simp only [Option.some.injEq] at e; omega
      · split at e
        · simp only [Option.some.injEq] at e; omega
        · split at e
          · simp only [Option.some.injEq] at e; omega
          · split at e
            · simp only [Option.some.injEq] at e; omega
            · split at e
              · simp only [Option.some.injEq] at e; omega
              · cases e
/-- fewer complaints -/
theorem LD_less {nc' : Nat} (h : nc' ≤ nc) : LD σ o g ng nd nc = LD (LD σ o g ng nd nc) o g ng nd nc' := by
  funext a k
  cases e : ixL o ng nd nc' a k with
  | none => rw [LD_no e]
  | some c =>
    rw [LD_at e]
    refine LD_at ?_
    unfold ixL at e ⊢
    split at e
    · next q => rw [if_pos q]; exact e
    · next q =>
      rw [if_neg q]
      split at e
      · next q => rw [if_pos q]; exact e
      · next q =>
        rw [if_neg q]
        split at e
        · next q => rw [if_pos q]; exact e
        · next q =>
          rw [if_neg q]
          split at e
          · next q => rw [if_pos q]; exact e
          · next q =>
            rw [if_neg q]
            split at e
            · next q => rw [if_pos (by omega)]; exact e
            · next q =>
              split at e
              · next q => rw [if_neg (by omega), if_pos (by omega)]; exact e
              · cases e
end
