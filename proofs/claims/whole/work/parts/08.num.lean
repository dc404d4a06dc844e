section OK
variable {D : va_G} {cA : Nat → ClassId} {B0 b Ln : Nat} {xs : Nat → Int32} {mm : Nat} {p : Program} {l : Launch} {e : Env} {s : State} {m : MethodId} {args : Array Value} {below : List Frame} {meth : Method} {c : Code} {Q : State → Prop}
theorem okN (hB : BX D cA B0 b Ln xs mm p s m args meth c) {op : Op} {x x' : Sx} (hk : OpOk mm x.1 op) (h : stpN op x = some x') (k : WS D cA B0 b Ln xs mm p l e s m args below meth c Q x') : WS D cA B0 b Ln xs mm p l e s m args below meth c Q x := by
  obtain ⟨hx, hb, -, -, hown, hts, -⟩ := hB
  obtain ⟨pc, L, st, kc, sc, μ⟩ := x
  obtain ⟨ins, len, a, b', c'⟩ := op
  obtain ⟨hd, hl, ho⟩ := hk
  intro H locs ls hL hM hS
  simp only [stpN] at h
  split at h
  · next v w st' =>
    have hl : len = 1 := by simpa [stdL] using hl
    subst hl
    cases h
    exact lv_iadd hx hb hd (k H locs ls hL hM hS)
  · next v w st' =>
    have hl : len = 1 := by simpa [stdL] using hl
    subst hl
    cases h
    exact lv_isub hx hb hd (k H locs ls hL hM hS)
  · next v w st' =>
    have hl : len = 1 := by simpa [stdL] using hl
    subst hl
    cases h
    exact lv_imul hx hb hd (k H locs ls hL hM hS)
  · next v w st' =>
    have hl : len = 1 := by simpa [stdL] using hl
    subst hl
    cases h
    exact lv_iand hx hb hd (k H locs ls hL hM hS)
  · next v w st' =>
    have hl : len = 1 := by simpa [stdL] using hl
    subst hl
    cases h
    exact lv_ior hx hb hd (k H locs ls hL hM hS)
  · next v w st' =>
    have hl : len = 1 := by simpa [stdL] using hl
    subst hl
    cases h
    exact lv_ixor hx hb hd (k H locs ls hL hM hS)
  · next v w st' =>
    have hl : len = 1 := by simpa [stdL] using hl
    subst hl
    cases h
    exact lv_ishl hx hb hd (k H locs ls hL hM hS)
  · next v w st' =>
    have hl : len = 1 := by simpa [stdL] using hl
    subst hl
    cases h
    exact lv_ishr hx hb hd (k H locs ls hL hM hS)
  · next v w st' =>
    have hl : len = 1 := by simpa [stdL] using hl
    subst hl
    cases h
    exact lv_iushr hx hb hd rfl (k H locs ls hL hM hS)
  · next v w st' =>
    have hl : len = 1 := by simpa [stdL] using hl
    subst hl
    split at h
    · cases h
    · next hc =>
      cases h
      exact lv_idiv hx hb hd hc (k H locs ls hL hM hS)
  · next v w st' =>
    have hl : len = 1 := by simpa [stdL] using hl
    subst hl
    split at h
    · cases h
    · next hc =>
      cases h
      exact lv_irem hx hb hd hc (k H locs ls hL hM hS)
  · next v st' =>
    have hl : len = 1 := by simpa [stdL] using hl
    subst hl
    cases h
    exact lv_i2l hx hb hd rfl (k H locs ls hL hM hS)
  · next v st' =>
    have hl : len = 1 := by simpa [stdL] using hl
    subst hl
    cases h
    exact lv_i2c hx hb hd rfl (k H locs ls hL hM hS)
  · next v st' =>
    have hl : len = 1 := by simpa [stdL] using hl
    subst hl
    cases h
    exact lv_i2f hx hb hd (k H locs ls hL hM hS)
  · next v st' =>
    have hl : len = 1 := by simpa [stdL] using hl
    subst hl
    cases h
    exact lv_i2d hx hb hd (k H locs ls hL hM hS)
  · next v st' =>
    have hl : len = 1 := by simpa [stdL] using hl
    subst hl
    split at h
    · next hc =>
      cases h
      exact lv_f2d hx hb hd hc (k H locs ls hL hM hS)
    · cases h
  · next v w st' =>
    have hl : len = 1 := by simpa [stdL] using hl
    subst hl
    split at h
    · next hc =>
      cases h
      exact lv_fdiv hx hb hd hc (k H locs ls hL hM hS)
    · cases h
  · next v w st' =>
    have hl : len = 1 := by simpa [stdL] using hl
    subst hl
    split at h
    · next hc =>
      cases h
      exact lv_ddiv hx hb hd hc (k H locs ls hL hM hS)
    · cases h
  · next v w st' =>
    have hl : len = 1 := by simpa [stdL] using hl
    subst hl
    cases h
    exact W.lcmp hx hb hd (k H locs ls hL hM hS)
  · next o v w st' =>
    have hl : len = 1 := by simpa [stdL] using hl
    subst hl
    cases h
    exact lv_fcmp hx hb hd (k H locs ls hL hM hS)
  · next o v w st' =>
    have hl : len = 1 := by simpa [stdL] using hl
    subst hl
    cases h
    exact lv_dcmp hx hb hd (k H locs ls hL hM hS)
  · next v st' =>
    have hl : len = 1 := by simpa [stdL] using hl
    subst hl
    split at h
    · next hc =>
      cases h
      exact lv_dup hx hb hd (by rw [rv_cat]; exact hc) (k H locs ls hL hM hS)
    · cases h
  · next v st' =>
    have hl : len = 1 := by simpa [stdL] using hl
    subst hl
    split at h
    · next hc =>
      cases h
      exact lv_pop hx hb hd (by rw [rv_cat]; exact hc) (k H locs ls hL hM hS)
    · cases h
  · next v w st' =>
    have hl : len = 1 := by simpa [stdL] using hl
    subst hl
    split at h
    · next hc =>
      cases h
      exact lv_dup2_11 hx hb hd (by rw [rv_cat]; exact hc.1) (by rw [rv_cat]; exact hc.2) (k H locs ls hL hM hS)
    · cases h
  · cases h
theorem okB (hB : BX D cA B0 b Ln xs mm p s m args meth c) {op : Op} {x x' : Sx} (hk : OpOk mm x.1 op) (h : stpB op x = some x') (k : WS D cA B0 b Ln xs mm p l e s m args below meth c Q x') : WS D cA B0 b Ln xs mm p l e s m args below meth c Q x := by
  obtain ⟨hx, hb, -, -, hown, hts, -⟩ := hB
  obtain ⟨pc, L, st, kc, sc, μ⟩ := x
  obtain ⟨ins, len, a, b', c'⟩ := op
  obtain ⟨hd, hl, ho⟩ := hk
  intro H locs ls hL hM hS
  simp only [stpB] at h
  split at h
  · next o v st' =>
    have hl : len = 3 := by simpa [stdL] using hl
    subst hl
    split at h
    · next hc =>
      cases h
      exact lv_if_eq hx hb hd ho (fun _ => k H locs ls hL hM hS) (fun q => absurd hc q)
    · next hc =>
      cases h
      exact lv_if_eq hx hb hd ho (fun q => absurd q hc) (fun _ => k H locs ls hL hM hS)
  · next o v st' =>
    have hl : len = 3 := by simpa [stdL] using hl
    subst hl
    split at h
    · next hc =>
      cases h
      exact lv_if_ne hx hb hd ho (fun q => absurd hc q) (fun _ => k H locs ls hL hM hS)
    · next hc =>
      cases h
      exact lv_if_ne hx hb hd ho (fun _ => k H locs ls hL hM hS) (fun q => absurd q hc)
  · next o v st' =>
    have hl : len = 3 := by simpa [stdL] using hl
    subst hl
    split at h
    · next hc =>
      cases h
      exact lv_if_lt hx hb hd ho (fun _ => k H locs ls hL hM hS) (fun q => absurd hc q)
    · next hc =>
      cases h
      exact lv_if_lt hx hb hd ho (fun q => absurd q hc) (fun _ => k H locs ls hL hM hS)
  · next o v st' =>
    have hl : len = 3 := by simpa [stdL] using hl
    subst hl
    split at h
    · next hc =>
      cases h
      exact lv_if_ge hx hb hd ho (fun _ => k H locs ls hL hM hS) (fun q => absurd hc q)
    · next hc =>
      cases h
      exact lv_if_ge hx hb hd ho (fun q => absurd q hc) (fun _ => k H locs ls hL hM hS)
  · next o v st' =>
    have hl : len = 3 := by simpa [stdL] using hl
    subst hl
    split at h
    · next hc =>
      cases h
      exact lv_if_gt hx hb hd ho (fun _ => k H locs ls hL hM hS) (fun q => absurd hc q)
    · next hc =>
      cases h
      exact lv_if_gt hx hb hd ho (fun q => absurd q hc) (fun _ => k H locs ls hL hM hS)
  · next o v st' =>
    have hl : len = 3 := by simpa [stdL] using hl
    subst hl
    split at h
    · next hc =>
      cases h
      exact lv_if_le hx hb hd ho (fun _ => k H locs ls hL hM hS) (fun q => absurd hc q)
    · next hc =>
      cases h
      exact lv_if_le hx hb hd ho (fun q => absurd q hc) (fun _ => k H locs ls hL hM hS)
  · next o v w st' =>
    have hl : len = 3 := by simpa [stdL] using hl
    subst hl
    split at h
    · next hc =>
      cases h
      exact lv_icmp_eq hx hb hd ho (fun _ => k H locs ls hL hM hS) (fun q => absurd hc q)
    · next hc =>
      cases h
      exact lv_icmp_eq hx hb hd ho (fun q => absurd q hc) (fun _ => k H locs ls hL hM hS)
  · next o v w st' =>
    have hl : len = 3 := by simpa [stdL] using hl
    subst hl
    split at h
    · next hc =>
      cases h
      exact lv_icmp_ne hx hb hd ho (fun q => absurd hc q) (fun _ => k H locs ls hL hM hS)
    · next hc =>
      cases h
      exact lv_icmp_ne hx hb hd ho (fun _ => k H locs ls hL hM hS) (fun q => absurd q hc)
  · next o v w st' =>
    have hl : len = 3 := by simpa [stdL] using hl
    subst hl
    split at h
    · next hc =>
      cases h
      exact lv_icmp_lt hx hb hd ho (fun _ => k H locs ls hL hM hS) (fun q => absurd hc q)
    · next hc =>
      cases h
      exact lv_icmp_lt hx hb hd ho (fun q => absurd q hc) (fun _ => k H locs ls hL hM hS)
  · next o v w st' =>
    have hl : len = 3 := by simpa [stdL] using hl
    subst hl
    split at h
    · next hc =>
      cases h
      exact lv_icmp_ge hx hb hd ho (fun _ => k H locs ls hL hM hS) (fun q => absurd hc q)
    · next hc =>
      cases h
      exact lv_icmp_ge hx hb hd ho (fun q => absurd q hc) (fun _ => k H locs ls hL hM hS)
  · next o v w st' =>
    have hl : len = 3 := by simpa [stdL] using hl
    subst hl
    split at h
    · next hc =>
      cases h
      exact lv_icmp_gt hx hb hd ho (fun _ => k H locs ls hL hM hS) (fun q => absurd hc q)
    · next hc =>
      cases h
      exact lv_icmp_gt hx hb hd ho (fun q => absurd q hc) (fun _ => k H locs ls hL hM hS)
  · next o v w st' =>
    have hl : len = 3 := by simpa [stdL] using hl
    subst hl
    split at h
    · next hc =>
      cases h
      exact lv_icmp_le hx hb hd ho (fun _ => k H locs ls hL hM hS) (fun q => absurd hc q)
    · next hc =>
      cases h
      exact lv_icmp_le hx hb hd ho (fun q => absurd q hc) (fun _ => k H locs ls hL hM hS)
  · next d lo hi offs v st' =>
    split at h
    · next hc =>
      split at h
      · next hz =>
        cases h
        exact lv_tableOut hx hb hd hc (Int.toNat_of_nonneg hz).symm (k H locs ls hL hM hS)
      · cases h
    · next hc =>
      split at h
      · next off hof =>
        split at h
        · next hz =>
          cases h
          exact lv_tableIn hx hb hd (fun q => hc (Or.inl q)) (fun q => hc (Or.inr q)) hof (Int.toNat_of_nonneg hz).symm (k H locs ls hL hM hS)
        · cases h
      · cases h
  · next d ps v st' =>
    split at h
    · next hc =>
      cases h
      exact lv_lookup hx hb hd hc.1 rfl (Int.toNat_of_nonneg hc.2).symm (k H locs ls hL hM hS)
    · cases h
  · cases h
end OK
