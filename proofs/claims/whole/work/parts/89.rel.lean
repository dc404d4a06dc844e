/-! THE LAW'S BEGINNING: the memory behind the constructors, as it is told -/
section
variable {D : va_G} {cA : Nat → ClassId} {B0 b Ln : Nat} {xs : Nat → Int32} {H : Heap}
theorem chkK_at {p n a pc k s m : Nat} {L : Lc} {st : List Value} {fr : Bool} {kd : Nat → Kd} {z} (h : chkK p n (some (pc, L, st, k, s, fr, m, kd, z)) = true) (h1 : p ≤ a) (h2 : a < p + n) : kdE (kd a) (KX 0 (σI (fun _ => 0)) a) = true := by
  have h : (List.range (p + n)).all (fun a => !(Nat.ble p a) || kdE (kd a) (KX 0 (σI (fun _ => 0)) a)) = true := h
  have := List.all_eq_true.mp h a (List.mem_range.mpr h2)
  rw [Nat.ble_eq_true_of_le h1] at this
  exact this
theorem chkS_at {p n a pc k s m : Nat} {L : Lc} {st : List Value} {fr : Bool} {kd : Nat → Kd} {σ : Nat → Nat → Int32} {z} (h : chkS p n (some (pc, L, st, k, s, fr, m, kd, σ, z)) = true) (h1 : p ≤ a) (h2 : a < p + n) : ∀ j, j < szK (KX 0 (σI (fun _ => 0)) a) → σ a j = σI (fun _ => 0) a j := by
  have h : (List.range (p + n)).all (fun a => !(Nat.ble p a) || (List.range (szK (KX 0 (σI (fun _ => 0)) a))).all (fun j => σ a j == σI (fun _ => 0) a j)) = true := h
  have := List.all_eq_true.mp h a (List.mem_range.mpr h2)
  rw [Nat.ble_eq_true_of_le h1] at this
  have this : (List.range (szK (KX 0 (σI (fun _ => 0)) a))).all (fun j => σ a j == σI (fun _ => 0) a j) = true := this
  intro j hj
  simpa using List.all_eq_true.mp this j (List.mem_range.mpr hj)
theorem run0_at : ∃ k s kd σ lo db, run0 = some (28, [.ref SCR, .ref 0, .ref 368, .ref 377, .ref 378, .int 0, .null, .null, .null], [], k, s, true, 379, kd, σ, lo, db) ∧ k ≤ 600000 ∧ s ≤ 7200000 ∧ ∀ a, a < 379 → kdE (kd a) (KX 0 (σI (fun _ => 0)) a) = true ∧ ∀ j, j < szK (KX 0 (σI (fun _ => 0)) a) → σ a j = σI (fun _ => 0) a j := by
  have h := run0_A
  have K0 := run0_K0
  have K1 := run0_K1
  have K2 := run0_K2
  have K3 := run0_K3
  have S0 := run0_S0
  have S1 := run0_S1
  have S2 := run0_S2
  have S3 := run0_S3
  have S4 := run0_S4
  cases hr : run0 with
  | none => rw [hr] at h; cases h
  | some x =>
    obtain ⟨pc, L, st, k, s, fr, n, kd, σ, lo, db⟩ := x
    rw [hr] at h K0 K1 K2 K3 S0 S1 S2 S3 S4
    simp only [chkA, Bool.and_eq_true] at h
    obtain ⟨⟨⟨⟨⟨⟨h1, h2⟩, h3⟩, h4⟩, h5⟩, h6⟩, h7⟩ := h
    have e1 : pc = 28 := by simpa using h1
    have e3 : st = [] := by simpa using h3
    have e5 : n = 379 := by simpa using h5
    have e6 : k ≤ 600000 := Nat.le_of_ble_eq_true h6
    have e7 : s ≤ 7200000 := Nat.le_of_ble_eq_true h7
    have e2 : L = [.ref SCR, .ref 0, .ref 368, .ref 377, .ref 378, .int 0, .null, .null, .null] := by
      unfold locK at h2
      split at h2
      · simp only [Bool.and_eq_true, beq_iff_eq] at h2
        obtain ⟨⟨⟨⟨⟨q1, q2⟩, q3⟩, q4⟩, q5⟩, q6⟩ := h2
        rw [q1, q2, q3, q4, q5, q6]
      · cases h2
    subst e1 e2 e3 e5
    have h4 : fr = true := h4
    subst h4
    refine ⟨k, s, kd, σ, lo, db, rfl, e6, e7, fun a ha => ⟨?_, ?_⟩⟩
    · rcases (show (0 ≤ a ∧ a < 0 + 95) ∨ (95 ≤ a ∧ a < 95 + 95) ∨ (190 ≤ a ∧ a < 190 + 95) ∨ (285 ≤ a ∧ a < 285 + 94) by omega) with q | q | q | q
      · exact chkK_at K0 q.1 q.2
      · exact chkK_at K1 q.1 q.2
      · exact chkK_at K2 q.1 q.2
      · exact chkK_at K3 q.1 q.2
    · rcases (show (0 ≤ a ∧ a < 0 + 95) ∨ (95 ≤ a ∧ a < 95 + 95) ∨ (190 ≤ a ∧ a < 190 + 95) ∨ (285 ≤ a ∧ a < 285 + 84) ∨ (369 ≤ a ∧ a < 369 + 10) by omega) with q | q | q | q | q
      · exact chkS_at S0 q.1 q.2
      · exact chkS_at S1 q.1 q.2
      · exact chkS_at S2 q.1 q.2
      · exact chkS_at S3 q.1 q.2
      · exact chkS_at S4 q.1 q.2
theorem KD_0 {a : Nat} (ha : a < 379) : KD Ln a = KD 0 a := by
  have : a ≠ SCR := by unfold SCR; omega
  unfold KD
  rw [if_neg this, if_neg this]
theorem KD_dead {a : Nat} (ha : 379 ≤ a) (hs : a ≠ SCR) : KD Ln a = dead := by
  unfold KD
  rw [if_neg hs]
  repeat' (first | rfl | (rw [if_neg (by omega)]))
theorem KX_0 {a : Nat} (ha : a < 379) : KX Ln (σI xs) a = KX 0 (σI (fun _ => 0)) a := by
  have hs : a ≠ SCR := by unfold SCR; omega
  unfold KX
  rw [KD_0 ha]
  refine congrArg (fixK (KD 0 a)) (funext fun j => ?_)
  unfold σI
  rw [if_neg hs, if_neg hs]
theorem arrV_cg {c : ClassId} {n : Nat} {f f' : Nat → Value} (e : ∀ j, j < n → f j = f' j) : arrV c n f = arrV c n f' := by
  have e1 : (fun (j : Fin n) => f j.val) = fun j => f' j.val := funext fun j => e j.1 j.2
  unfold arrV
  rw [e1]
theorem RelM_MM {kd : Nat → Kd} {σ : Nat → Nat → Int32} {lo : Nat → Nat → Int64} {db : Nat → Nat → UInt64} (hc : ∀ a, a < 379 → kdE (kd a) (KX 0 (σI (fun _ => 0)) a) = true ∧ ∀ j, j < szK (KX 0 (σI (fun _ => 0)) a) → σ a j = σI (fun _ => 0) a j)
    (h : RelM D cA B0 b Ln xs (pM (.inr (8, Ln, none)) xs (true, 379, kd, σ, lo, db)) H) : RelM D cA B0 b Ln xs (MM Ln (σI xs) lo db) H := by
  obtain ⟨h1, h2, h3, h4, h5, h6, h7, h8⟩ := h
  have hn : ∀ {i}, i < 379 → i ≠ SCR := fun {i} hi => by unfold SCR; omega
  refine ⟨fun i q hi => ?_, (fun q => by cases q), h3, h4, fun a ha hs => KX_num (KD_dead ha hs) (by decide), KX_num (σ := σI xs) KD_SCR (by decide), (fun j => by show σI xs SCR j = xs j; unfold σI; rw [if_pos rfl]), fun a ci nf fx hk => ?_⟩
  · have hl : i < 379 := by
      have := (List.getElem?_eq_some_iff.mp hi).1
      simpa [wl, MM] using this
    rw [wl_get (μ := MM Ln (σI xs) lo db) hl] at hi
    cases hi
    have h := h1 i _ (wl_get (μ := pM (.inr (8, Ln, none)) xs (true, 379, kd, σ, lo, db)) hl)
    obtain ⟨hk, hs⟩ := hc i hl
    have e1 : (pM (.inr (8, Ln, none)) xs (true, 379, kd, σ, lo, db)).2.2.1 i = kd i := pK_ne (hn hl)
    have e2 : ∀ j, (pM (.inr (8, Ln, none)) xs (true, 379, kd, σ, lo, db)).2.2.2.1 i j = σ i j := fun j => pS_ne (hn hl)
    have e2' : (pM (.inr (8, Ln, none)) xs (true, 379, kd, σ, lo, db)).2.2.2.1 i = σ i := funext e2
    have e3 : (MM Ln (σI xs) lo db).2.2.1 i = KX 0 (σI (fun _ => 0)) i := KX_0 hl
    have e4 : ∀ j, σI xs i j = σI (fun _ => 0) i j := fun j => by unfold σI; rw [if_neg (hn hl), if_neg (hn hl)]
    rcases hx : kd i with ⟨ci, nf, fx⟩ | ⟨ti, n, f⟩ <;> rcases hy : KX 0 (σI (fun _ => 0)) i with ⟨ci', nf', fx'⟩ | ⟨ti', n', f'⟩
    · rw [hx, hy] at hk
      rw [hy] at hs
      simp only [kdE, Bool.and_eq_true, beq_iff_eq] at hk
      obtain ⟨⟨rfl, rfl⟩, hall⟩ := hk
      have ef : ∀ j, j < nf → fx j = fx' j := fun j hj => by
        have := List.all_eq_true.mp hall j (List.mem_range.mpr hj)
        split at this
        · next q1 q2 => rw [q1, q2]; simp only [beq_iff_eq] at this; rw [this]
        · next q1 q2 => rw [q1, q2]; simp only [beq_iff_eq] at this; rw [this]
        · next q1 q2 => rw [q1, q2]
        · next q1 q2 => rw [q1, q2]
        · cases this
      have ec : cel b B0 cA (MM Ln (σI xs) lo db) i = cel b B0 cA (pM (.inr (8, Ln, none)) xs (true, 379, kd, σ, lo, db)) i := by
        simp only [cel, e1, hx, e3, hy]
        congr 2
        refine List.map_congr_left fun j hj => ?_
        have hj := List.mem_range.mp hj
        rw [ef j hj, e2]
        show _ = match fx' j with | some v => rv b B0 v | none => .int (σ i j)
        rw [hs j hj]
        show (match fx' j with | some v => rv b B0 v | none => .int (σI xs i j)) = _
        rw [e4]
      rw [ec]; exact h
    · rw [hx, hy] at hk; cases hk
    · rw [hx, hy] at hk; cases f <;> cases hk
    · rw [hx, hy] at hk
      rw [hy] at hs
      cases f with
      | none =>
        cases f' with
        | none =>
          simp only [kdE, Bool.and_eq_true, beq_iff_eq] at hk
          obtain ⟨rfl, rfl⟩ := hk
          have hs' : ∀ j, j < n → σ i j = σI xs i j := fun j hj => (hs j hj).trans (e4 j).symm
          simp only [cel, e1, hx, e2'] at h
          simp only [cel, e3, hy]
          split at h
          · next q => rw [if_pos q]; exact h
          · next q =>
            rw [if_neg q]
            split at h
            · next q1 => rw [if_pos q1]; exact h
            · next q1 =>
              rw [if_neg q1]
              refine Eq.trans h (congrArg some ?_)
              exact arrV_cg (f := fun j => Value.int (σ i j)) (f' := fun j => Value.int (σI xs i j)) (fun j hj => by rw [hs' j hj])
        | some f' => cases hk
      | some f =>
        cases f' with
        | none => cases hk
        | some f' =>
          simp only [kdE, Bool.and_eq_true, beq_iff_eq] at hk
          obtain ⟨⟨rfl, rfl⟩, hall⟩ := hk
          have ef : ∀ j, j < n → f j = f' j := fun j hj => by
            have := List.all_eq_true.mp hall j (List.mem_range.mpr hj)
            simpa using this
          simp only [cel, e1, hx] at h
          simp only [cel, e3, hy]
          refine Eq.trans h (congrArg some ?_)
          exact arrV_cg (f := fun j => va_rf ((f j).map (adr b B0))) (f' := fun j => va_rf ((f' j).map (adr b B0))) (fun j hj => by rw [ef j hj])
  · have hk : KX Ln (σI xs) a = .inl (ci, nf, fx) := hk
    have hl : a < 379 := by
      rcases Nat.lt_or_ge a 379 with q | q
      · exact q
      · by_cases z : a = SCR
        · rw [z, KX_num KD_SCR (by decide)] at hk; cases hk
        · rw [KX_num (KD_dead q z) (by decide)] at hk; cases hk
    rw [KX_0 hl] at hk
    have hq := (hc a hl).1
    rw [hk] at hq
    rcases hx : kd a with ⟨ci', nf', fx'⟩ | ⟨ti, n, f⟩
    · rw [hx] at hq
      simp only [kdE, Bool.and_eq_true, beq_iff_eq] at hq
      obtain ⟨⟨rfl, rfl⟩, -⟩ := hq
      exact h8 a _ _ fx' ((pK_ne (hn hl)).trans hx)
    · rw [hx] at hq; cases f <;> cases hq
end
