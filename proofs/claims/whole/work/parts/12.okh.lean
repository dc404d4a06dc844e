section OK
variable {D : va_G} {cA : Nat → ClassId} {B0 b Ln : Nat} {xs : Nat → Int32} {mm : Nat} {p : Program} {l : Launch} {e : Env} {s : State} {m : MethodId} {args : Array Value} {below : List Frame} {meth : Method} {c : Code} {Q : State → Prop}
set_option maxHeartbeats 1000000 in
theorem okH (hB : BX D cA B0 b Ln xs mm p s m args meth c) {op : Op} {x x' : Sx} (hk : OpOk mm x.1 op) (h : stpH mm op x = some x') (k : WS D cA B0 b Ln xs mm p l e s m args below meth c Q x') : WS D cA B0 b Ln xs mm p l e s m args below meth c Q x := by
  obtain ⟨pc, L, st, kc, sc, fr, n, kd, σ, lo, db⟩ := x
  obtain ⟨ins, len, a, b', c'⟩ := op
  obtain ⟨hd, hl, ho⟩ := hk
  intro H locs ls hL hM hS
  simp only [stpH] at h
  split at h
  · next i o st' =>
    have hl : len = 3 := by simpa [stdL] using hl
    subst hl
    split at h
    · next ci nf fx hk =>
      split at h
      · next hc =>
        cases h
        obtain ⟨rfl, hn⟩ := hc
        exact k_get hB hM (μ := (fr, n, kd, σ, lo, db)) hk ho hd (k H locs ls hL hM hS)
      · cases h
    · cases h
  · next i v o st' =>
    have hl : len = 3 := by simpa [stdL] using hl
    subst hl
    obtain ⟨hF, h0, h1, h2, h3, h4⟩ := ho
    split at h
    · next ci nf fx hk =>
      split at h
      · next hc =>
        cases h
        obtain ⟨rfl, hn, hfx, hf⟩ := hc
        have hty : narrow (ftT ci b') (.int v) = .int v ∧ fits (ftT ci b') (.int v) = true ∧ (fT ci b').2.2.2 = false := by
          rcases hf with hf | ⟨hf, hv⟩
          · obtain ⟨g1, g2⟩ := h0 hf
            rw [g1]; exact ⟨rfl, rfl, g2⟩
          · obtain ⟨g1, g2⟩ := h1 hf
            rw [g1]
            rcases hv with rfl | rfl
            · exact ⟨rfl, rfl, g2⟩
            · exact ⟨rfl, rfl, g2⟩
        refine k_put hB hM hS (μ := (fr, n, kd, σ, lo, db)) (μ' := (fr, n, kd, u2 σ o b' v, lo, db)) (fx' := fx) hk hF hd hty.1 hty.2.1 (Or.inl hty.2.2) hk rfl rfl (fun j hj => ?_) (fun q hq => ⟨rfl, u2_ne hq⟩) rfl (fun H1 locs1 hM1 hS1 => k H1 locs1 ls hL hM1 hS1)
        show slV b B0 fx (u2 σ o b' v o) j = updV (slV b B0 fx (σ o)) b' (.int v) j
        rw [u2_eq]
        unfold slV updV
        by_cases hj' : j = b'
        · subst hj'; rw [hfx]; simp
        · simp only [if_neg hj']
      · split at h
        · next hc =>
          cases h
          obtain ⟨rfl, hn, hf, hi, hO⟩ := hc
          obtain ⟨g1, g2⟩ := h4 hf
          have hkk : uK kd o (.inl (ci, nf, fun j => if j = b' then some (.int v) else fx j)) o = .inl (ci, nf, fun j => if j = b' then some (.int v) else fx j) := uK_eq
          refine k_put hB hM hS (v := .int v) (μ := (fr, n, kd, σ, lo, db)) (μ' := (fr, n, uK kd o (.inl (ci, nf, fun j => if j = b' then some (.int v) else fx j)), σ, lo, db)) hk hF hd (by rw [g1]; rfl) (by rw [g1]; rfl) (Or.inr ⟨g2, hi, hO⟩) hkk rfl rfl (fun j hj => ?_) (fun q hq => ⟨uK_ne hq, rfl⟩) rfl (fun H1 locs1 hM1 hS1 => k H1 locs1 ls hL hM1 hS1)
          show slV b B0 (fun j => if j = b' then some (.int v) else fx j) (σ o) j = updV (slV b B0 fx (σ o)) b' (.int v) j
          unfold slV updV
          by_cases hj' : j = b'
          · subst hj'; simp [rv]
          · simp only [if_neg hj']
        · cases h
    · cases h
  · next i v o st' =>
    have hl : len = 3 := by simpa [stdL] using hl
    subst hl
    obtain ⟨hF, h0, h1, h2, h3, h4⟩ := ho
    split at h
    · next ci nf fx hk =>
      split at h
      · next hc =>
        cases h
        obtain ⟨rfl, hn, hfx, hf, hi, hO⟩ := hc
        have hty : narrow (ftT ci b') (.ref (adr b B0 v)) = .ref (adr b B0 v) ∧ fits (ftT ci b') (.ref (adr b B0 v)) = true := by
          rcases h2 hf with ⟨C, g⟩ | ⟨C, g⟩
          · rw [g]; exact ⟨rfl, rfl⟩
          · rw [g]; exact ⟨rfl, rfl⟩
        have hkk : uK kd o (.inl (ci, nf, fun j => if j = b' then some (.ref v) else fx j)) o = .inl (ci, nf, fun j => if j = b' then some (.ref v) else fx j) := uK_eq
        refine k_put hB hM hS (v := .ref (adr b B0 v)) (μ := (fr, n, kd, σ, lo, db)) (μ' := (fr, n, uK kd o (.inl (ci, nf, fun j => if j = b' then some (.ref v) else fx j)), σ, lo, db)) hk hF hd hty.1 hty.2 (Or.inr ⟨h3 hf, hi, hO⟩) hkk rfl rfl (fun j hj => ?_) (fun q hq => ⟨uK_ne hq, rfl⟩) rfl (fun H1 locs1 hM1 hS1 => k H1 locs1 ls hL hM1 hS1)
        show slV b B0 (fun j => if j = b' then some (.ref v) else fx j) (σ o) j = updV (slV b B0 fx (σ o)) b' (.ref (adr b B0 v)) j
        unfold slV updV
        by_cases hj' : j = b'
        · subst hj'; simp [rv]
        · simp only [if_neg hj']
      · cases h
    · cases h
  · next i o st' =>
    have hl : len = 1 := by simpa [stdL] using hl
    subst hl
    split at h
    · next ti ln hk =>
      split at h
      · next hc =>
        cases h
        exact k_iald hB hM hS (μ := (fr, n, kd, σ, lo, db)) hk hc.1 hc.2 hd (k H locs ls hL hM hS)
      · cases h
    · cases h
  · next i o st' =>
    have hl : len = 1 := by simpa [stdL] using hl
    subst hl
    split at h
    · next ti ln hk =>
      split at h
      · next hc =>
        cases h
        obtain ⟨rfl, hc⟩ := hc
        exact k_cald hB hM (μ := (fr, n, kd, σ, lo, db)) hk hc hd (k H locs ls hL hM hS)
      · cases h
    · cases h
  · next i o st' =>
    have hl : len = 1 := by simpa [stdL] using hl
    subst hl
    split at h
    · next ti ln hk =>
      split at h
      · next hc =>
        cases h
        obtain ⟨rfl, hc⟩ := hc
        exact k_lald hB hM (μ := (fr, n, kd, σ, lo, db)) hk hc hd (k H locs ls hL hM hS)
      · cases h
    · cases h
  · next i o st' =>
    have hl : len = 1 := by simpa [stdL] using hl
    subst hl
    split at h
    · next ti ln hk =>
      split at h
      · next hc =>
        cases h
        obtain ⟨rfl, hc⟩ := hc
        exact k_dald hB hM (μ := (fr, n, kd, σ, lo, db)) hk hc hd (k H locs ls hL hM hS)
      · cases h
    · cases h
  · next i o st' =>
    have hl : len = 1 := by simpa [stdL] using hl
    subst hl
    split at h
    · next ti ln f hk =>
      split at h
      · next hc =>
        split at h
        · next r hr =>
          cases h
          exact k_aald hB hM (μ := (fr, n, kd, σ, lo, db)) hk hc.1 hc.2.1 hc.2.2 hr hd (k H locs ls hL hM hS)
        · cases h
      · cases h
    · cases h
  · next v i o st' =>
    have hl : len = 1 := by simpa [stdL] using hl
    subst hl
    split at h
    · next ti ln hk =>
      split at h
      · next hc =>
        cases h
        obtain ⟨rfl, hc⟩ := hc
        exact k_iast hB hM hS hk hc hd (fun H1 locs1 hM1 hS1 => k H1 locs1 ls hL hM1 hS1)
      · cases h
    · cases h
  · next v i o st' =>
    have hl : len = 1 := by simpa [stdL] using hl
    subst hl
    split at h
    · next ti ln hk =>
      split at h
      · next hc =>
        cases h
        obtain ⟨rfl, hc⟩ := hc
        exact k_cast hB hM hS hk hc hd (fun H1 locs1 hM1 hS1 => k H1 locs1 ls hL hM1 hS1)
      · cases h
    · cases h
  · next v i o st' =>
    have hl : len = 1 := by simpa [stdL] using hl
    subst hl
    split at h
    · next ti ln hk =>
      split at h
      · next hc =>
        cases h
        obtain ⟨rfl, hc⟩ := hc
        exact k_last hB hM hS hk hc hd (fun H1 locs1 hM1 hS1 => k H1 locs1 ls hL hM1 hS1)
      · cases h
    · cases h
  · next v i o st' =>
    have hl : len = 1 := by simpa [stdL] using hl
    subst hl
    split at h
    · next ti ln hk =>
      split at h
      · next hc =>
        cases h
        obtain ⟨rfl, hc⟩ := hc
        exact k_dast hB hM hS hk hc hd (fun H1 locs1 hM1 hS1 => k H1 locs1 ls hL hM1 hS1)
      · cases h
    · cases h
  · next v i o st' =>
    have hl : len = 1 := by simpa [stdL] using hl
    subst hl
    split at h
    · next ti ln f ci nf fx hk hkv =>
      split at h
      · next hc =>
        obtain ⟨h4, h8, hci, hc10, hc⟩ := hc
        cases fr
        · cases h
          exact k_aast hB hM hS hk hkv h4 h8 hci hc10 hc hd (fun q hq => u2_ne hq) (fun H1 locs1 hM1 hS1 => k H1 locs1 ls hL hM1 hS1)
        · cases h
          exact k_aast hB hM hS hk hkv h4 h8 hci hc10 hc hd (fun q hq => rfl) (fun H1 locs1 hM1 hS1 => k H1 locs1 ls hL hM1 hS1)
      · cases h
    · cases h
  · next o st' =>
    have hl : len = 1 := by simpa [stdL] using hl
    subst hl
    split at h
    · next ti ln hk =>
      split at h
      · next hc =>
        cases h
        exact k_alen hB hM hS (μ := (fr, n, kd, σ, lo, db)) hk hc hd (k H locs ls hL hM hS)
      · cases h
    · cases h
  · cases h
end OK
