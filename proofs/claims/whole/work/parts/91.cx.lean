/-! THE LAW'S BEGINNING: what the tables and the claim say of the start -/
section
variable {args : Array Value} {s : State}
theorem kP {t : FieldType} (h : (Cond.arrayClass t).before args s = true) : ∃ cA : ClassId, ArrOfT s cA t ∧ s.vm.findClass ("[" ++ t.toString) = some cA := by
  obtain ⟨c, k, comp, h1, h2, h3⟩ := Cond.arrayClass_spec h
  exact ⟨c, fun n z => ⟨(fun k h => by cases h), k, h2, comp, h3⟩, h1⟩
theorem kO {C : String} (h : (Cond.arrayOver (.object C)).before args s = true) : ∃ cA : ClassId, ArrOfT s cA (.object C) ∧ va_RA s cA (.object C) := by
  obtain ⟨comp, c, k, f1, -, f3, f4, f5⟩ := Cond.arrayOver_spec h
  exact ⟨c, fun n z => ⟨(fun k h => by cases h), k, f3, comp, f4⟩, k, comp, f3, f4, f1, f5⟩
theorem kC {C : String} {T : u_T} {N : Nat} (hts : ∀ w ∈ lw_tbl, w.before args s = true) (hin : (u_ws C T N).all (fun w => decide (w ∈ lw_tbl)) = true) (hi : Cond.instantiable C N ∈ lw_tbl) : ∃ (cC : ClassId) (iS : Nat → Nat), u_Kn s C T N cC iS :=
  u_known hts (fun w hw => of_decide_eq_true (List.all_eq_true.mp hin w hw)) (hts _ hi)
theorem cx_K (hts : ∀ w ∈ lw_tbl, w.before args s = true) : ∃ (D : va_G) (cA : Nat → ClassId), va_K D vwC (tysL cA) s := by
  obtain ⟨c0, i0, k0⟩ := kC (s := s) hts (C := RX0) (T := TX0) (N := 8) (by decide +kernel) (by decide +kernel)
  obtain ⟨c1, i1, k1⟩ := kC (s := s) hts (C := RX1) (T := TX1) (N := 13) (by decide +kernel) (by decide +kernel)
  obtain ⟨c2, i2, k2⟩ := kC (s := s) hts (C := RX2) (T := TX2) (N := 10) (by decide +kernel) (by decide +kernel)
  obtain ⟨c3, i3, k3⟩ := kC (s := s) hts (C := RX3) (T := TX3) (N := 5) (by decide +kernel) (by decide +kernel)
  obtain ⟨c4, i4, k4⟩ := kC (s := s) hts (C := RX4) (T := TX4) (N := 3) (by decide +kernel) (by decide +kernel)
  obtain ⟨c5, i5, k5⟩ := kC (s := s) hts (C := RX5) (T := TX5) (N := 4) (by decide +kernel) (by decide +kernel)
  obtain ⟨c6, i6, k6⟩ := kC (s := s) hts (C := RX6) (T := TX6) (N := 2) (by decide +kernel) (by decide +kernel)
  obtain ⟨c7, i7, k7⟩ := kC (s := s) hts (C := RX7) (T := TX7) (N := 5) (by decide +kernel) (by decide +kernel)
  obtain ⟨c8, i8, k8⟩ := kC (s := s) hts (C := RX8) (T := TX8) (N := 8) (by decide +kernel) (by decide +kernel)
  obtain ⟨c9, i9, k9⟩ := kC (s := s) hts (C := RX9) (T := TX9) (N := 20) (by decide +kernel) (by decide +kernel)
  obtain ⟨a0, p0, q0⟩ := kP (s := s) (t := .int) (hts _ (by decide +kernel))
  obtain ⟨a1, p1, q1⟩ := kP (s := s) (t := .char) (hts _ (by decide +kernel))
  obtain ⟨a2, p2, q2⟩ := kP (s := s) (t := .long) (hts _ (by decide +kernel))
  obtain ⟨a3, p3, q3⟩ := kP (s := s) (t := .double) (hts _ (by decide +kernel))
  obtain ⟨a4, p4, q4⟩ := kO (s := s) (C := RX3) (hts _ (by decide +kernel))
  obtain ⟨a5, p5, q5⟩ := kO (s := s) (C := RX2) (hts _ (by decide +kernel))
  obtain ⟨a6, p6, q6⟩ := kO (s := s) (C := RX1) (hts _ (by decide +kernel))
  obtain ⟨a7, p7, q7⟩ := kO (s := s) (C := RX5) (hts _ (by decide +kernel))
  refine ⟨(fun c => [c0, c1, c2, c3, c4, c5, c6, c7, c8, c9].getD c c0, fun c => [i0, i1, i2, i3, i4, i5, i6, i7, i8, i9].getD c i0), fun c => [a0, a1, a2, a3, a4, a5, a6, a7].getD c a0, fun c q hq => ?_, fun c q hq => ?_⟩
  · have hc : c < 10 := (List.getElem?_eq_some_iff.mp hq).1
    obtain rfl | rfl | rfl | rfl | rfl | rfl | rfl | rfl | rfl | rfl : c = 0 ∨ c = 1 ∨ c = 2 ∨ c = 3 ∨ c = 4 ∨ c = 5 ∨ c = 6 ∨ c = 7 ∨ c = 8 ∨ c = 9 := by omega
    all_goals cases hq
    · exact k0
    · exact k1
    · exact k2
    · exact k3
    · exact k4
    · exact k5
    · exact k6
    · exact k7
    · exact k8
    · exact k9
  · have hc : c < 8 := (List.getElem?_eq_some_iff.mp hq).1
    obtain rfl | rfl | rfl | rfl | rfl | rfl | rfl | rfl : c = 0 ∨ c = 1 ∨ c = 2 ∨ c = 3 ∨ c = 4 ∨ c = 5 ∨ c = 6 ∨ c = 7 := by omega
    all_goals cases hq
    · exact ⟨p0, q0⟩
    · exact ⟨p1, q1⟩
    · exact ⟨p2, q2⟩
    · exact ⟨p3, q3⟩
    · exact ⟨p4, q4⟩
    · exact ⟨p5, q5⟩
    · exact ⟨p6, q6⟩
    · exact ⟨p7, q7⟩
theorem cx_S (hts : ∀ w ∈ lw_tbl, w.before args s = true) (own : String) (k : Nat) (tx : String) (hw : Cond.stringRef own k tx ∈ lw_tbl) : ∃ a, vk_R own k tx a s := by
  have h := hts _ hw
  cases hc : s.vm.findClass own with
  | none => simp [Cond.before, Cond.holds, Cond.value, hc] at h
  | some cur =>
    obtain ⟨-, -, -, a, -, -, -, -, -, h2⟩ := Cond.stringRef_spec hc h
    exact ⟨a, vk_R.of h h2⟩
theorem cx_N (hts : ∀ w ∈ lw_tbl, w.before args s = true) : ∀ w ∈ NGL, va_Nw w s := fun w hw => by
  have h := hts w (List.mem_filter.mp hw).1
  have hg := (List.mem_filter.mp hw).2
  refine va_Nw.of ?_ h
  cases w <;> first | rfl | (exfalso; revert hg; exact Bool.false_ne_true)
theorem cx_nc : ∀ i, i < 6 → ∀ j, j < 6 → i ≠ j → Cond.not (.castable (exN i) (exN j)) ∈ flatC (Jvm.Cond.and given_1 narrow_1) := by decide +kernel
theorem cx_0 {b L : Nat} {xs : Nat → Int32} (hts : ∀ w ∈ lw_tbl, w.before args s = true) (hgv : (Jvm.Cond.and given_1 narrow_1).before args s = true) (hX : va_X b L xs s s.heap) (hbl : b < s.heap.size) : ∃ (D : va_G) (cA : Nat → ClassId), CX D cA s.heap.size b L xs s := by
  obtain ⟨D, cA, hK⟩ := cx_K hts
  have hf := flat_of_before _ hgv
  refine ⟨D, cA, hK, cx_N hts, fun own k tx hw => cx_S hts own k tx hw, vx_Zqof (hts _ (by decide +kernel)) (hts _ (by decide +kernel)) (hf _ (by decide +kernel)) (fun a h q => absurd h (Nat.not_lt.mpr q)), vx_Zqof (hts _ (by decide +kernel)) (hts _ (by decide +kernel)) (hf _ (by decide +kernel)) (fun a h q => absurd h (Nat.not_lt.mpr q)), hX, hbl, Nat.le_refl _, fun i j hi hj hne => va_Nc.of (hf _ (cx_nc i hi j hj hne)), fun C hC => va_AO.of (hts _ ?_)⟩
  simp only [List.mem_cons, List.not_mem_nil, or_false] at hC
  rcases hC with rfl | rfl | rfl | rfl <;> decide +kernel
end
