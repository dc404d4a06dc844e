/-! THE CLASS: its whole state in the memory; what is kept and given back -/
set_option maxRecDepth 16384
section
variable {K : Ou → Me → Prop} {Ln : Nat} {σ σ' : Nat → Nat → Int32} {g : Gr} {lo : Nat → Nat → Int64} {db : Nat → Nat → UInt64} {μ : Me} {oh : Nat → Nat → Bool} {o ng nd nc h i : Nat}
theorem RD_cg (hng : ng ≤ 6) (hnd : nd ≤ 12) (hR : RD σ o g oh ng nd nc) (e : ∀ a, o ≤ a → a < o + 31 → σ' a = σ a) : RD σ' o g oh ng nd nc := by
  obtain ⟨h1, h2⟩ := hR
  refine ⟨?_, fun i hi => ?_⟩
  · funext a k
    cases q : ixL o ng nd nc a k with
    | none => exact LD_no q
    | some c =>
      have q1 : σ a k = g c := by rw [← h1]; exact LD_at q
      rw [LD_at q]
      by_cases ha : o ≤ a ∧ a < o + 31
      · rw [e a ha.1 ha.2, q1]
      · rw [ix_out hng hnd (by omega)] at q; cases q
  · rw [e (ohA o i) (by unfold ohA; omega) (by unfold ohA; omega)]
    exact h2 i hi
/-- a state: numbers, hours, gates, gardens, complaints, the hour -/
abbrev Sy : Type := Gr × (Nat → Nat → Bool) × Nat × Nat × Nat × Nat
def RDs (σ : Nat → Nat → Int32) (o : Nat) (s : Sy) : Prop := RD σ o s.1 s.2.1 s.2.2.1 s.2.2.2.1 s.2.2.2.2.1
def Cbs (s : Sy) : Prop := Cb s.1 s.2.2.1 s.2.2.2.1 s.2.2.2.2.1 s.2.2.2.2.2
theorem RDs_cg {s : Sy} (hB : Cbs s) (hR : RDs σ o s) (e : ∀ a, o ≤ a → a < o + 31 → σ' a = σ a) : RDs σ' o s := RD_cg hB.1 hB.2.1 hR e
/-- the ring of kept ditches: the latest first -/
def HisC (σ : Nat → Nat → Int32) (H : List Sy) : Prop := ∃ p, p < 8 ∧ H.length ≤ 8 ∧ σ 94 2 = jI p ∧ σ 94 1 = jI H.length ∧ ∀ j s, H[j]? = some s → RDs σ (kD ((p + 7 - j) % 8)) s
/-- everything: the state, what is kept, the snapshot, the reason with its detail, the input, the error -/
abbrev Ga : Type := Sy × List Sy × Option Sy × Int32 × Int32 × (Nat → Nat) × Nat × Int32
def CI (σ : Nat → Nat → Int32) (G : Ga) : Prop :=
  RDs σ 1 G.1 ∧ HisC σ G.2.1 ∧ σ 0 3 = bI (G.2.2.1.isSome = true) ∧ (∀ t, G.2.2.1 = some t → RDs σ 63 t) ∧ σ 367 0 = G.2.2.2.1 ∧ σ 367 1 = G.2.2.2.2.1 ∧ INC σ G.2.2.2.2.2.1 G.2.2.2.2.2.2.1 ∧ σ 0 7 = G.2.2.2.2.2.2.2
/-- all states are sound -/
def Gd (G : Ga) : Prop := Cbs G.1 ∧ (∀ s, s ∈ G.2.1 → Cbs s) ∧ ∀ t, G.2.2.1 = some t → Cbs t
def PC (σ σ' : Nat → Nat → Int32) : Prop := ∀ a, 368 ≤ a → σ' a = σ a
theorem PC.refl : PC σ σ := fun _ _ => rfl
theorem PC.trans {σ'' : Nat → Nat → Int32} (h : PC σ σ') (h' : PC σ' σ'') : PC σ σ'' := fun a ha => (h' a ha).trans (h a ha)
theorem kD_b {i : Nat} (hi : i < 8) : 96 ≤ kD i ∧ kD i + 31 ≤ 344 := by unfold kD; omega
theorem INC_cg {c : Nat → Nat} {len : Nat} (h : INC σ c len) (e1 : σ' 344 2 = σ 344 2) (e2 : σ' 345 = σ 345) : INC σ' c len := by
  obtain ⟨i1, i2, i3⟩ := h
  exact ⟨i1, e1.trans i2, fun k hk => by rw [e2]; exact i3 k hk⟩
/-- a change of cells that hold nothing of the state, and of the ditch itself -/
theorem CI_cur {G : Ga} {s' : Sy} (hG : Gd G) (hC : CI σ G) (hR : RDs σ' 1 s') (e : ∀ a, (a = 0 ∨ (63 ≤ a ∧ a < 346) ∨ a = 367) → σ' a = σ a) : CI σ' (s', G.2) := by
  obtain ⟨c1, ⟨p, p1, p2, p3, p4, p5⟩, c3, c4, c5, c6, c7, c8⟩ := hC
  obtain ⟨d1, d2, d3⟩ := hG
  refine ⟨hR, ⟨p, p1, p2, ?_, ?_, fun j s hj => ?_⟩, ?_, fun t ht => ?_, ?_, ?_, INC_cg c7 ?_ ?_, ?_⟩
  · rw [e 94 (by omega)]; exact p3
  · rw [e 94 (by omega)]; exact p4
  · have hb := kD_b (i := (p + 7 - j) % 8) (by omega)
    exact RDs_cg (d2 s (List.mem_of_getElem? hj)) (p5 j s hj) (fun a h1 h2 => e a (by omega))
  · rw [e 0 (by omega)]; exact c3
  · exact RDs_cg (d3 t ht) (c4 t ht) (fun a h1 h2 => e a (by omega))
  · rw [e 367 (by omega)]; exact c5
  · rw [e 367 (by omega)]; exact c6
  · rw [e 344 (by omega)]
  · exact e 345 (by omega)
  · rw [e 0 (by omega)]; exact c8
theorem CI_curF {G : Ga} {s' : Sy} (hG : Gd G) (hC : CI σ G) (hR : RDs σ' 1 s') (e : Fout 1 σ σ') : CI σ' (s', G.2) := CI_cur hG hC hR (fun a ha => e a (by omega))
theorem CI_same {G : Ga} (hG : Gd G) (hC : CI σ G) (e : ∀ a, (a < 32 ∨ (63 ≤ a ∧ a < 346) ∨ a = 367) → σ' a = σ a) : CI σ' G :=
  CI_cur hG hC (RDs_cg hG.1 hC.1 (fun a h1 h2 => e a (by omega))) (fun a ha => e a (by omega))
theorem c_keep {s : Sy} {H : List Sy} {r : Option Sy × Int32 × Int32 × (Nat → Nat) × Nat × Int32} (hG : Gd (s, H, r)) (hC : CI σ (s, H, r)) (HH : ∀ σ', CI σ' (s, (s :: H).take 8, r) → PC σ σ' → (∀ a, (a < 94 ∨ 344 ≤ a) → σ' a = σ a) → K (.inl none) (MM Ln σ' lo db)) :
    Ev 58 (0, [.ref 94, .ref 1], [], 0, 0, MM Ln σ lo db) K := by
  have hC0 := hC
  obtain ⟨c1, ⟨p, p1, p2, p3, p4, p5⟩, c3, c4, c5, c6, c7, c8⟩ := hC
  obtain ⟨d1, d2, d3⟩ := hG
  dsimp only at c1 p2 p4 p5 c3 c4 c5 c6 c7 c8 d1 d2 d3
  have hb := kD_b p1
  have hDk := DI_k p1
  have hD1 := DI_1
  simp (disch := first | assumption | omega) only [s_58_0, s_58_1, s_58_4, s_58_5, s_58_8, s_58_9, s_58_10, r_58_10, s_58_13, s_58_14, s_58_15, s_58_18, s_58_19, s_58_20, s_58_22, s_58_23, s_58_26, s_58_27, s_58_28, s_58_31, s_58_32, s_58_33, s_58_35, r_58_35, s_58_38, s_58_41, jI_mul, jI_add, jI_tnc, jI_ixT, true_and, and_true, bZ_0, bZ_1, bZ_b, jI_nz, jI_div, jI_rem, jI_mod, Nat.add_zero, bI_if, not_false_iff, if_true, if_false, eq_self, p3]
  refine c_copy (o1 := kD p) (o2 := 1) (DI_k p1) DI_1 (by omega) c1 d1 (fun τ r1 f1 => ?_)
  have e94 : τ 94 = σ 94 := f1 94 (by omega)
  have q2 : τ 94 2 = jI p := by rw [e94]; exact p3
  have q1 : τ 94 1 = jI H.length := by rw [e94]; exact p4
  have q1' : ∀ v, u2 τ 94 2 v 94 1 = jI H.length := fun v => (u2_nk (by decide)).trans q1
  simp (disch := first | assumption | omega) only [s_58_0, s_58_1, s_58_4, s_58_5, s_58_8, s_58_9, s_58_10, r_58_10, s_58_13, s_58_14, s_58_15, s_58_18, s_58_19, s_58_20, s_58_22, s_58_23, s_58_26, s_58_27, s_58_28, s_58_31, s_58_32, s_58_33, s_58_35, r_58_35, s_58_38, s_58_41, jI_mul, jI_add, jI_tnc, jI_ixT, true_and, and_true, bZ_0, bZ_1, bZ_b, jI_nz, jI_div, jI_rem, jI_mod, Nat.add_zero, bI_if, not_false_iff, if_true, if_false, eq_self, q2, q1', m_min, mn_jI]
  have eo : ∀ a, a ≠ 94 → u2 (u2 τ 94 2 (jI ((p + 1) % 8))) 94 1 (jI (min (H.length + 1) 8)) a = τ a := fun a ha => by
    funext k; rw [u2_na ha, u2_na ha]
  have eo2 : ∀ a, a ≠ 94 → (a < kD p ∨ kD p + 31 ≤ a) → u2 (u2 τ 94 2 (jI ((p + 1) % 8))) 94 1 (jI (min (H.length + 1) 8)) a = σ a := fun a h1 h2 => (eo a h1).trans (f1 a h2)
  refine HH _ ⟨?_, ⟨(p + 1) % 8, by omega, ?_, ?_, ?_, fun j t hj => ?_⟩, ?_, fun t ht => ?_, ?_, ?_, INC_cg c7 ?_ ?_, ?_⟩ (fun a ha => eo2 a (by omega) (by omega)) (fun a ha => eo2 a (by omega) (by omega))
  · exact RDs_cg d1 c1 (fun a h1 h2 => eo2 a (by omega) (by omega))
  · dsimp only; rw [List.length_take]; omega
  · rw [u2_nk (by decide), u2_at]
  · dsimp only
    rw [u2_at, List.length_take, List.length_cons]
    congr 1
    omega
  · dsimp only at hj
    rw [List.getElem?_take] at hj
    split at hj
    · next hj8 =>
      cases j with
      | zero =>
        rw [List.getElem?_cons_zero] at hj
        cases hj
        rw [show ((p + 1) % 8 + 7 - 0) % 8 = p by omega]
        exact RDs_cg d1 r1 (fun a h1 h2 => eo a (by omega))
      | succ j =>
        rw [List.getElem?_cons_succ] at hj
        rw [show ((p + 1) % 8 + 7 - (j + 1)) % 8 = (p + 7 - j) % 8 by omega]
        have hb2 := kD_b (i := (p + 7 - j) % 8) (by omega)
        refine RDs_cg (d2 t (List.mem_of_getElem? hj)) (p5 j t hj) (fun a h1 h2 => eo2 a (by omega) ?_)
        have : (p + 7 - j) % 8 ≠ p := by omega
        unfold kD at h1 h2 ⊢
        omega
    · cases hj
  · rw [eo2 0 (by omega) (by omega)]; exact c3
  · exact RDs_cg (d3 t ht) (c4 t ht) (fun a h1 h2 => eo2 a (by omega) (by omega))
  · rw [eo2 367 (by omega) (by omega)]; exact c5
  · rw [eo2 367 (by omega) (by omega)]; exact c6
  · rw [eo2 344 (by omega) (by omega)]
  · exact eo2 345 (by omega) (by omega)
  · rw [eo2 0 (by omega) (by omega)]; exact c8
theorem c_giveBack {s t : Sy} {H : List Sy} {r : Option Sy × Int32 × Int32 × (Nat → Nat) × Nat × Int32} (hG : Gd (s, t :: H, r)) (hC : CI σ (s, t :: H, r)) (HH : ∀ σ', CI σ' (t, H, r) → PC σ σ' → K (.inl none) (MM Ln σ' lo db)) :
    Ev 59 (0, [.ref 94, .ref 1], [], 0, 0, MM Ln σ lo db) K := by
  obtain ⟨c1, ⟨p, p1, p2, p3, p4, p5⟩, c3, c4, c5, c6, c7, c8⟩ := hC
  obtain ⟨d1, d2, d3⟩ := hG
  dsimp only at c1 p2 p4 p5 c3 c4 c5 c6 c7 c8 d1 d2 d3
  rw [List.length_cons] at p2 p4
  have hb := kD_b (i := (p + 7) % 8) (by omega)
  have q1 : ∀ v, u2 σ 94 2 v 94 1 = jI (H.length + 1) := fun v => (u2_nk (by decide)).trans p4
  have q2 : ∀ v w, u2 (u2 σ 94 2 v) 94 1 w 94 2 = v := fun v w => (u2_nk (by decide)).trans u2_at
  have ep : jI (p + 8) - jI 1 = jI (p + 7) := jI_sub (by omega)
  have emod : p + 7 - (p + 7) / 8 * 8 = (p + 7) % 8 := by omega
  have hDk := DI_k (show (p + 7) % 8 < 8 by omega)
  have hD1 := DI_1
  simp (disch := first | assumption | omega) only [s_59_0, s_59_1, s_59_2, s_59_5, s_59_7, s_59_8, s_59_9, s_59_10, s_59_12, s_59_13, s_59_16, s_59_17, s_59_18, s_59_21, s_59_22, s_59_23, s_59_26, s_59_27, s_59_28, s_59_31, s_59_32, s_59_35, s_59_36, r_59_36, s_59_39, jI_mul, jI_add, jI_tnc, jI_ixT, true_and, and_true, bZ_0, bZ_1, bZ_b, jI_nz, jI_div, jI_rem, jI_mod, Nat.add_zero, bI_if, not_false_iff, if_true, if_false, eq_self, p3, ep, q1, q2, jI_sub, Nat.add_sub_cancel, emod]
  have hτ : ∃ τ, τ = u2 (u2 σ 94 2 (jI ((p + 7) % 8))) 94 1 (jI H.length) := ⟨_, rfl⟩
  obtain ⟨τ, hτ⟩ := hτ
  rw [← hτ]
  have eτ : ∀ a, a ≠ 94 → τ a = σ a := fun a ha => by rw [hτ]; funext k; rw [u2_na ha, u2_na ha]
  have dt : Cbs t := d2 t List.mem_cons_self
  have rt : RDs τ (kD ((p + 7) % 8)) t := RDs_cg dt (by have := p5 0 t rfl; rwa [Nat.sub_zero] at this) (fun a h1 h2 => eτ a (by omega))
  refine c_copy (o1 := 1) (o2 := kD ((p + 7) % 8)) DI_1 (DI_k (by omega)) (by omega) rt dt (fun τ' r1 f1 => ?_)
  simp (disch := first | assumption | omega) only [s_59_0, s_59_1, s_59_2, s_59_5, s_59_7, s_59_8, s_59_9, s_59_10, s_59_12, s_59_13, s_59_16, s_59_17, s_59_18, s_59_21, s_59_22, s_59_23, s_59_26, s_59_27, s_59_28, s_59_31, s_59_32, s_59_35, s_59_36, r_59_36, s_59_39, jI_mul, jI_add, jI_tnc, jI_ixT, true_and, and_true, bZ_0, bZ_1, bZ_b, jI_nz, jI_div, jI_rem, jI_mod, Nat.add_zero, bI_if, not_false_iff, if_true, if_false, eq_self]
  have eo : ∀ a, a ≠ 94 → (a < 1 ∨ 32 ≤ a) → τ' a = σ a := fun a h1 h2 => (f1 a h2).trans (eτ a h1)
  have e94 : τ' 94 = τ 94 := f1 94 (by omega)
  refine HH _ ⟨r1, ⟨(p + 7) % 8, by omega, by dsimp only; omega, ?_, ?_, fun j t' hj => ?_⟩, ?_, fun t' ht => ?_, ?_, ?_, INC_cg c7 ?_ ?_, ?_⟩ (fun a ha => eo a (by omega) (by omega))
  · rw [e94, hτ, u2_nk (by decide), u2_at]
  · rw [e94, hτ, u2_at]
  · have hj' : (t :: H)[j + 1]? = some t' := by rw [List.getElem?_cons_succ]; exact hj
    have := p5 (j + 1) t' hj'
    have hjl : j < H.length := by
      have := List.getElem?_eq_some_iff.mp hj
      exact this.1
    rw [show ((p + 7) % 8 + 7 - j) % 8 = (p + 7 - (j + 1)) % 8 by omega]
    have hb2 := kD_b (i := (p + 7 - (j + 1)) % 8) (by omega)
    exact RDs_cg (d2 t' (List.mem_cons_of_mem _ (List.mem_of_getElem? hj))) this (fun a h1 h2 => eo a (by omega) (by omega))
  · rw [eo 0 (by omega) (by omega)]; exact c3
  · exact RDs_cg (d3 t' ht) (c4 t' ht) (fun a h1 h2 => eo a (by omega) (by omega))
  · rw [eo 367 (by omega) (by omega)]; exact c5
  · rw [eo 367 (by omega) (by omega)]; exact c6
  · rw [eo 344 (by omega) (by omega)]
  · exact eo 345 (by omega) (by omega)
  · rw [eo 0 (by omega) (by omega)]; exact c8
end
