/-! THE REFERENCE: its whole state in the memory -/
set_option maxRecDepth 16384
section
variable {K : Ou → Me → Prop} {Ln : Nat} {σ σ' : Nat → Nat → Int32} {g g' : Gr} {lo : Nat → Nat → Int64} {db : Nat → Nat → UInt64} {μ : Me} {oh : Nat → Nat → Bool} {ng nd nc h i : Nat} {s : Sy} {H : List Sy} {sv : Option Sy} {y0 d0 : Int32} {c : Nat → Nat} {len : Nat} {er : Int32} {r : (Nat → Nat) × Nat × Int32}
/-- the kept rows: the latest last -/
def HisR (σ : Nat → Nat → Int32) (H : List Sy) : Prop := H.length ≤ 8 ∧ σ 368 6 = jI H.length ∧ ∀ j s, H[j]? = some s → ∀ k, k < 199 → σ 370 (199 * (H.length - 1 - j) + k) = s.1 k
def RI (σ : Nat → Nat → Int32) (G : Ga) : Prop :=
  σ 369 = G.1.1 ∧ HisR σ G.2.1 ∧ σ 368 5 = bI (G.2.2.1.isSome = true) ∧ (∀ t, G.2.2.1 = some t → ∀ k, k < 199 → σ 371 k = t.1 k) ∧ σ 368 7 = jI 0 ∧ σ 368 10 = G.2.2.2.1 ∧ σ 368 11 = G.2.2.2.2.1 ∧ INP σ G.2.2.2.2.2.1 G.2.2.2.2.2.2.1 ∧ σ 368 14 = G.2.2.2.2.2.2.2
/-- the water is reckoned -/
def ACt (g : Gr) (ng nd : Nat) : Prop := (∀ k, k < ng → g (15 + 10 * k + 2) = drkS g k nd + g (15 + 10 * k + 3)) ∧ g 7 = g 8 + sumS g nd 6 + sumS g nd 7 + g 11 ∧ g 9 = sumS g nd 6 ∧ g 10 = sumS g nd 7
def NG (g : Gr) : Prop := ∀ k, 199 ≤ k → g k = jI 0
def Snd (s : Sy) : Prop := Cbs s ∧ OHm s.1 s.2.1 ∧ NG s.1 ∧ ACt s.1 s.2.2.1 s.2.2.2.1
def AllG (N : Nat) (G : Ga) : Prop := (Snd G.1 ∧ G.1.2.2.2.2.2 ≤ N) ∧ (∀ s, s ∈ G.2.1 → Snd s ∧ s.2.2.2.2.2 ≤ N) ∧ ∀ t, G.2.2.1 = some t → Snd t ∧ t.2.2.2.2.2 ≤ N
theorem AllG.gd {N : Nat} {G : Ga} (h : AllG N G) : Gd G := ⟨h.1.1.1, fun s hs => (h.2.1 s hs).1.1, fun t ht => (h.2.2 t ht).1.1⟩
theorem AllG.mono {N N' : Nat} {G : Ga} (h : AllG N G) (hN : N ≤ N') : AllG N' G := ⟨⟨h.1.1, Nat.le_trans h.1.2 hN⟩, fun s hs => ⟨(h.2.1 s hs).1, Nat.le_trans (h.2.1 s hs).2 hN⟩, fun t ht => ⟨(h.2.2 t ht).1, Nat.le_trans (h.2.2 t ht).2 hN⟩⟩
theorem AllG.keep {N N' : Nat} {H : List Sy} {s s' : Sy} {sv : Option Sy} {r r' : Int32 × Int32 × (Nat → Nat) × Nat × Int32} (h : AllG N (s, H, sv, r)) (hN : N ≤ N') (h' : Snd s' ∧ s'.2.2.2.2.2 ≤ N') : AllG N' (s', (s :: H).take 8, sv, r') := by
  have hm := h.mono hN
  refine ⟨h', fun t ht => ?_, hm.2.2⟩
  rcases List.mem_cons.mp (List.mem_of_mem_take ht) with rfl | q
  · exact hm.1
  · exact hm.2.1 t q
theorem Bas_of (hB : Cb g ng nd nc h) (hO : OHm g oh) : Bas g oh ng nd nc h := ⟨hB.1, hB.2.1, hB.2.2.1, hB.2.2.2.1, hB.2.2.2.2.1, hB.2.2.2.2.2.1, hB.2.2.2.2.2.2.1, hO, CPL_of hB.1 hB.2.1 hB.2.2.2.2.2.2.2.2⟩
theorem MM_MG (e : σ 369 = g) : MM Ln σ lo db = MM Ln (MG σ g) lo db := by rw [← e, MG_self]
/-- what the reference leaves as it is -/
def PR (σ σ' : Nat → Nat → Int32) : Prop := ∀ a, (a < 368 ∨ 377 ≤ a) → σ' a = σ a
theorem PR.refl : PR σ σ := fun _ _ => rfl
theorem PR.trans {σ'' : Nat → Nat → Int32} (h : PR σ σ') (h' : PR σ' σ'') : PR σ σ'' := fun a ha => (h' a ha).trans (h a ha)
theorem INP_cg (hI : INP σ c len) (e1 : σ' 368 13 = σ 368 13) (e2 : σ' 374 = σ 374) : INP σ' c len := by
  obtain ⟨i1, i2, i3⟩ := hI
  exact ⟨i1, e1.trans i2, fun k hk => by rw [e2]; exact i3 k hk⟩
/-- junk alone has changed, and the row of numbers -/
theorem RI_fr {s s' : Sy} (hR : RI σ (s, H, sv, y0, d0, c, len, er)) (e9 : σ' 369 = s'.1) (ej : ∀ j, j ≠ 8 → j ≠ 9 → j ≠ 16 → j ≠ 17 → j ≠ 19 → σ' 368 j = σ 368 j) (e0 : σ' 370 = σ 370) (e1 : σ' 371 = σ 371) (e4 : σ' 374 = σ 374) : RI σ' (s', H, sv, y0, d0, c, len, er) := by
  obtain ⟨r1, ⟨h1, h2, h3⟩, r3, r4, r5, r6, r7, r8, r9⟩ := hR
  refine ⟨e9, ⟨h1, ?_, fun j t hj k hk => ?_⟩, ?_, fun t ht k hk => ?_, ?_, ?_, ?_, INP_cg r8 (ej 13 (by decide) (by decide) (by decide) (by decide) (by decide)) e4, ?_⟩
  · rw [ej 6 (by decide) (by decide) (by decide) (by decide) (by decide)]; exact h2
  · rw [e0]; exact h3 j t hj k hk
  · rw [ej 5 (by decide) (by decide) (by decide) (by decide) (by decide)]; exact r3
  · rw [e1]; exact r4 t ht k hk
  · rw [ej 7 (by decide) (by decide) (by decide) (by decide) (by decide)]; exact r5
  · rw [ej 10 (by decide) (by decide) (by decide) (by decide) (by decide)]; exact r6
  · rw [ej 11 (by decide) (by decide) (by decide) (by decide) (by decide)]; exact r7
  · rw [ej 14 (by decide) (by decide) (by decide) (by decide) (by decide)]; exact r9
/-- behind a code -/
theorem RI_code {v : Int32} (hR : RI σ (s, H, sv, y0, d0, c, len, er)) : RI (MG (u2 σ 368 8 v) s.1) (s, H, sv, y0, d0, c, len, er) ∧ MG (u2 σ 368 8 v) s.1 368 8 = v ∧ PR σ (MG (u2 σ 368 8 v) s.1) := by
  have e : ∀ a, a ≠ 368 → a ≠ 369 → MG (u2 σ 368 8 v) s.1 a = σ a := fun a h1 h2 => by
    rw [MG_of h2]; funext k; exact u2_na h1
  refine ⟨RI_fr hR MG_gf (fun j h1 h2 h3 h4 h5 => (MG_o (by decide)).trans (u2_nk h1)) (e 370 (by decide) (by decide)) (e 371 (by decide) (by decide)) (e 374 (by decide) (by decide)), (MG_o (by decide)).trans u2_at, fun a ha => e a (by omega) (by omega)⟩
/-- behind a trial and a code -/
theorem RI_tr {τ : Nat → Nat → Int32} {v : Int32} (hR : RI σ (s, H, sv, y0, d0, c, len, er)) (f : ∀ a, a ≠ 375 → a ≠ 373 → a ≠ 368 → a ≠ 369 → τ a = σ a) (fj : ∀ j, j ≠ 16 → j ≠ 8 → τ 368 j = σ 368 j) : RI (MG (u2 τ 368 8 v) s.1) (s, H, sv, y0, d0, c, len, er) ∧ MG (u2 τ 368 8 v) s.1 368 8 = v ∧ PR σ (MG (u2 τ 368 8 v) s.1) := by
  have e : ∀ a, a ≠ 375 → a ≠ 373 → a ≠ 368 → a ≠ 369 → MG (u2 τ 368 8 v) s.1 a = σ a := fun a h1 h2 h3 h4 => by
    rw [MG_of h4, ← f a h1 h2 h3 h4]; funext k; exact u2_na h3
  refine ⟨RI_fr hR MG_gf (fun j h1 h2 h3 h4 h5 => (MG_o (by decide)).trans ((u2_nk h1).trans (fj j h3 h1))) (e 370 (by decide) (by decide) (by decide) (by decide)) (e 371 (by decide) (by decide) (by decide) (by decide)) (e 374 (by decide) (by decide) (by decide) (by decide)), (MG_o (by decide)).trans u2_at, fun a ha => e a (by omega) (by omega) (by omega) (by omega)⟩
theorem RI_tr0 {τ : Nat → Nat → Int32} (hR : RI σ (s, H, sv, y0, d0, c, len, er)) (f : ∀ a, a ≠ 375 → a ≠ 373 → a ≠ 368 → a ≠ 369 → τ a = σ a) (fj : ∀ j, j ≠ 16 → τ 368 j = u2 σ 368 8 (jI 0) 368 j) : RI (MG τ s.1) (s, H, sv, y0, d0, c, len, er) ∧ MG τ s.1 368 8 = jI 0 ∧ PR σ (MG τ s.1) := by
  have e : ∀ a, a ≠ 375 → a ≠ 373 → a ≠ 368 → a ≠ 369 → MG τ s.1 a = σ a := fun a h1 h2 h3 h4 => by
    rw [MG_of h4, ← f a h1 h2 h3 h4]
  refine ⟨RI_fr hR MG_gf (fun j h1 h2 h3 h4 h5 => (MG_o (by decide)).trans ((fj j h3).trans (u2_nk h1))) (e 370 (by decide) (by decide) (by decide) (by decide)) (e 371 (by decide) (by decide) (by decide) (by decide)) (e 374 (by decide) (by decide) (by decide) (by decide)), (MG_o (by decide)).trans ((fj 8 (by decide)).trans u2_at), fun a ha => e a (by omega) (by omega) (by omega) (by omega)⟩
/-- behind a refusal -/
def RFx (σ : Nat → Nat → Int32) (p w d : Int32) : Nat → Nat → Int32 := u2 (u2 (u2 (u2 (u2 σ 368 8 (jI 0)) 368 8 p) 368 9 (jI 1)) 368 10 w) 368 11 d
theorem RI_ref {p w d : Int32} (hR : RI σ (s, H, sv, y0, d0, c, len, er)) : RI (MG (RFx σ p w d) s.1) (s, H, sv, w, d, c, len, er) ∧ MG (RFx σ p w d) s.1 368 8 = p ∧ PR σ (MG (RFx σ p w d) s.1) := by
  have e : ∀ a, a ≠ 368 → a ≠ 369 → MG (RFx σ p w d) s.1 a = σ a := fun a h1 h2 => by
    rw [MG_of h2]; unfold RFx; funext k; rw [u2_na h1, u2_na h1, u2_na h1, u2_na h1, u2_na h1]
  have ej : ∀ j, j ≠ 8 → j ≠ 9 → j ≠ 10 → j ≠ 11 → MG (RFx σ p w d) s.1 368 j = σ 368 j := fun j h1 h2 h3 h4 => by
    rw [MG_o (by decide)]; unfold RFx; rw [u2_nk h4, u2_nk h3, u2_nk h2, u2_nk h1, u2_nk h1]
  have e8 : MG (RFx σ p w d) s.1 368 8 = p := by
    rw [MG_o (by decide)]; unfold RFx; rw [u2_nk (by decide), u2_nk (by decide), u2_nk (by decide), u2_at]
  have e10 : MG (RFx σ p w d) s.1 368 10 = w := by
    rw [MG_o (by decide)]; unfold RFx; rw [u2_nk (by decide), u2_at]
  have e11 : MG (RFx σ p w d) s.1 368 11 = d := by
    rw [MG_o (by decide)]; unfold RFx; rw [u2_at]
  obtain ⟨r1, ⟨h1, h2, h3⟩, r3, r4, r5, r6, r7, r8, r9⟩ := hR
  refine ⟨⟨MG_gf, ⟨h1, ?_, fun j t hj k hk => ?_⟩, ?_, fun t ht k hk => ?_, ?_, e10, e11, INP_cg r8 (ej 13 (by decide) (by decide) (by decide) (by decide)) (e 374 (by decide) (by decide)), ?_⟩, e8, fun a ha => e a (by omega) (by omega)⟩
  · rw [ej 6 (by decide) (by decide) (by decide) (by decide)]; exact h2
  · rw [e 370 (by decide) (by decide)]; exact h3 j t hj k hk
  · rw [ej 5 (by decide) (by decide) (by decide) (by decide)]; exact r3
  · rw [e 371 (by decide) (by decide)]; exact r4 t ht k hk
  · rw [ej 7 (by decide) (by decide) (by decide) (by decide)]; exact r5
  · rw [ej 14 (by decide) (by decide) (by decide) (by decide)]; exact r9
theorem His_keep {s : Sy} {row : Nat → Int32} (hl : H.length ≤ 8) (h3 : ∀ j s, H[j]? = some s → ∀ k, k < 199 → row (199 * (H.length - 1 - j) + k) = s.1 k) : ∀ j t, ((s :: H).take 8)[j]? = some t → ∀ k, k < 199 → KPr row s.1 H.length (199 * (((s :: H).take 8).length - 1 - j) + k) = t.1 k := by
  intro j t hj k hk
  rw [List.getElem?_take] at hj
  rw [List.length_take, List.length_cons]
  unfold KPr
  split at hj
  · next hj8 =>
    cases j with
    | zero =>
      rw [List.getElem?_cons_zero] at hj
      cases hj
      by_cases h8 : H.length = 8
      · rw [if_pos h8, if_neg (by omega), if_pos (by omega)]; exact congrArg _ (by omega)
      · rw [if_neg h8, if_pos (by omega)]; exact congrArg _ (by omega)
    | succ j =>
      rw [List.getElem?_cons_succ] at hj
      have hjl : j < H.length := (List.getElem?_eq_some_iff.mp hj).1
      rw [← h3 j t hj k hk]
      by_cases h8 : H.length = 8
      · rw [if_pos h8, if_pos (by omega)]; congr 1; omega
      · rw [if_neg h8, if_neg (by omega)]; congr 1; omega
  · cases hj
/-- behind a change that was kept -/
theorem RI_keep {s' : Sy} {τ : Nat → Nat → Int32} (hR : RI σ (s, H, sv, y0, d0, c, len, er)) (f : FR (KB σ s.1 H.length false) τ) : RI (MG τ s'.1) (s', (s :: H).take 8, sv, y0, d0, c, len, er) ∧ MG τ s'.1 368 8 = jI 0 ∧ PR σ (MG τ s'.1) := by
  obtain ⟨r1, ⟨h1, h2, h3⟩, r3, r4, r5, r6, r7, r8, r9⟩ := hR
  dsimp only at h1 h2 h3 r1 r3 r4 r6 r7 r8 r9
  have eK : KB σ s.1 H.length false = kpW (MG (u2 σ 368 8 (jI 0)) s.1) 369 H.length := rfl
  rw [eK] at f
  have e : ∀ a, a ≠ 368 → a ≠ 369 → a ≠ 370 → a ≠ 375 → MG τ s'.1 a = σ a := fun a q1 q2 q3 q4 => by
    rw [MG_of q2, f.1 a q4 q1, kpW_o q3 q1, MG_of q2]; funext k; exact u2_na q1
  have ej : ∀ j, j ≠ 6 → j ≠ 8 → j ≠ 16 → MG τ s'.1 368 j = σ 368 j := fun j q1 q2 q3 => by
    rw [MG_o (by decide), f.2 j q3, kpW_f q1, MG_o (by decide), u2_nk q2]
  have e8 : MG τ s'.1 368 8 = jI 0 := by
    rw [MG_o (by decide), f.2 8 (by decide), kpW_f (by decide), MG_o (by decide), u2_at]
  have e6 : MG τ s'.1 368 6 = jI (min (H.length + 1) 8) := by
    rw [MG_o (by decide), f.2 6 (by decide), kpW_6 h1]
  have e370 : MG τ s'.1 370 = KPr (σ 370) s.1 H.length := by
    rw [MG_of (by decide), f.1 370 (by decide) (by decide), kpW_370 (by decide) (by decide) h1, MG_gf, MG_of (by decide)]
    have e0 : u2 σ 368 8 (jI 0) 370 = σ 370 := by funext k; exact u2_na (by decide)
    rw [e0]
  refine ⟨⟨MG_gf, ⟨?_, ?_, fun j t hj k hk => ?_⟩, ?_, fun t ht k hk => ?_, ?_, ?_, ?_, INP_cg r8 (ej 13 (by decide) (by decide) (by decide)) (e 374 (by decide) (by decide) (by decide) (by decide)), ?_⟩, e8, fun a ha => e a (by omega) (by omega) (by omega) (by omega)⟩
  · dsimp only; rw [List.length_take]; omega
  · dsimp only; rw [e6, List.length_take, List.length_cons]; congr 1; omega
  · rw [e370]; exact His_keep h1 h3 j t hj k hk
  · rw [ej 5 (by decide) (by decide) (by decide)]; exact r3
  · rw [e 371 (by decide) (by decide) (by decide) (by decide)]; exact r4 t ht k hk
  · rw [ej 7 (by decide) (by decide) (by decide)]; exact r5
  · rw [ej 10 (by decide) (by decide) (by decide)]; exact r6
  · rw [ej 11 (by decide) (by decide) (by decide)]; exact r7
  · rw [ej 14 (by decide) (by decide) (by decide)]; exact r9
end
