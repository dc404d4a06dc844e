theorem fx_def : ∀ ci, ci < 10 → ∀ k, k < nfT ci → defaultValue (ftT ci k) = (fx0 ci k).getD (.int 0) ∧ (fx0 ci k = none ∨ fx0 ci k = some .null) := by decide +kernel
theorem arrB : ∀ ti, ti < 4 → Cond.arrayClass (tyT ti) ∈ BIG
  | 0, _ => List.mem_filter.mpr ⟨List.mem_of_getElem? (i := 141) (by decide +kernel), by decide +kernel⟩
  | 1, _ => List.mem_filter.mpr ⟨List.mem_of_getElem? (i := 318) (by decide +kernel), by decide +kernel⟩
  | 2, _ => List.mem_filter.mpr ⟨List.mem_of_getElem? (i := 1469) (by decide +kernel), by decide +kernel⟩
  | 3, _ => List.mem_filter.mpr ⟨List.mem_of_getElem? (i := 1470) (by decide +kernel), by decide +kernel⟩
  | n + 4, h => absurd h (by omega)
section OK
variable {D : va_G} {cA : Nat → ClassId} {B0 b Ln : Nat} {xs : Nat → Int32} {mm : Nat} {p : Program} {l : Launch} {e : Env} {s : State} {m : MethodId} {args : Array Value} {below : List Frame} {meth : Method} {c : Code} {Q : State → Prop}
theorem RelM.push {μ μ' : Me} {H H1 : Heap} (h : RelM D cA B0 b Ln xs μ H) (hn : μ'.2.1 = μ.2.1 + 1) (hsz : H.size = B0 + μ.2.1) (hlt : μ.2.1 < SCR)
    (he : va_at D vwC (B0 + μ.2.1, cel b B0 cA μ' μ.2.1) H1) (ho : ∀ q, q < μ.2.1 → cel b B0 cA μ' q = cel b B0 cA μ q) (z : H1.size = H.size + 1) (oq : ∀ q, q < H.size → H1[q]? = H[q]?)
    (hk : ∀ q, q ≠ μ.2.1 → μ'.2.2.1 q = μ.2.2.1 q) (hσ : ∀ j, μ'.2.2.2.1 SCR j = μ.2.2.2.1 SCR j) (hnf : ∀ ci nf fx, μ'.2.2.1 μ.2.1 = .inl (ci, nf, fx) → nf = nfT ci) : RelM D cA B0 b Ln xs μ' H1 := by
  obtain ⟨h1, h2, h3, h4, h5, h6, h7, h8⟩ := h
  refine ⟨?_, fun q => by rw [z, hn]; omega, by rw [z, hn]; omega, by rw [hn]; omega, fun q q1 q2 => ?_, ?_, fun j => by rw [hσ]; exact h7 j, fun q ci nf fx e => ?_⟩
  · rw [← wl_push (μ := μ) hn rfl ho]
    refine (h1.kept (fun k q hq => oq q.1 ((h1 k q hq).lt))).app (fun k q hq => ?_)
    have hz : k < 1 := (List.getElem?_eq_some_iff.mp hq).1
    rw [show k = 0 by omega] at hq
    cases hq
    exact he
  · rw [hn] at q1
    rw [hk q (by omega)]; exact h5 q (by omega) q2
  · rw [hk SCR (by omega)]; exact h6
  · by_cases hq : q = μ.2.1
    · subst hq; exact hnf ci nf fx e
    · rw [hk q hq] at e; exact h8 q ci nf fx e
theorem va_S_push {A : Nat → Prop} {H0 H H1 : Heap} {locs : List Loc} (hS : va_S A H0 H locs) (z : H1.size = H.size + 1) (oq : ∀ q, q < H.size → H1[q]? = H[q]?) : va_S A H0 H1 locs :=
  ⟨Nat.le_trans hS.1 (by omega), fun x h1 h2 => (oq x (Nat.lt_of_lt_of_le h1 hS.1)).trans (hS.2.1 x h1 h2), hS.2.2⟩
set_option maxHeartbeats 1000000 in
theorem okM (hB : BX D cA B0 b Ln xs mm p s m args meth c) {op : Op} {x x' : Sx} (hk : OpOk mm x.1 op) (h : stpM mm op x = some x') (k : WS D cA B0 b Ln xs mm p l e s m args below meth c Q x') : WS D cA B0 b Ln xs mm p l e s m args below meth c Q x := by
  have hK := hK_of hB
  have hCX := hB.2.2.2.2.2.2.2.2.2
  obtain ⟨hx, hb, -, hml, hown, hts, -⟩ := hB
  obtain ⟨pc, L, st, kc, sc, fr, n, kd, σ, lo, db⟩ := x
  obtain ⟨ins, len, a, b', c'⟩ := op
  obtain ⟨hd, hl, ho⟩ := hk
  intro H locs ls hL hM hS
  simp only [stpM] at h
  split at h
  · next i st' =>
    have hl : len = 3 := by simpa [stdL] using hl
    subst hl
    split at h
    · next hc =>
      cases h
      obtain ⟨rfl, hc, rfl, hn, hkc, hsc⟩ := hc
      simp only [if_true] at ho
      obtain ⟨o1, o2, o3⟩ := ho
      have hsz : H.size = B0 + n := hM.2.1 rfl
      have hKn := hK.1 a _ (vwC_get a hc)
      refine W.newcK hx hb hown (hts _ o1) (hts _ o2) (hts _ o3) rfl hd hkc hsc hKn.2.1 hsz fun H1 kC hkC e1 z1 q1 => ?_
      have z1 : H1.size = H.size + 1 := by rw [z1, hsz]
      have q1 : ∀ q, q < H.size → H1[q]? = H[q]? := fun q hq => q1 q (by rw [← hsz]; exact hq)
      have hkk : uK kd n (.inl (a, nfT a, fx0 a)) n = .inl (a, nfT a, fx0 a) := uK_eq
      have hr : RelM D cA B0 b Ln xs (true, n + 1, uK kd n (.inl (a, nfT a, fx0 a)), (fun q j => if q = n then 0 else σ q j), lo, db) H1 := by
        refine hM.push rfl hsz hn ?_ ?_ z1 q1 (fun q hq => uK_ne hq) (fun j => if_neg (Ne.symm (Nat.ne_of_lt hn))) ?_
        · rw [cel_obj (μ := (true, n + 1, uK kd n (.inl (a, nfT a, fx0 a)), (fun q j => if q = n then 0 else σ q j), lo, db)) hkk]
          refine ⟨_, vwC_get a hc, (u_born (ftT a) hts (inB a hc) hKn hkC e1 (fT_ty a hc)).to (fun j hj => ?_)⟩
          have hj : j < nfT a := hj
          rw [vpV_map hj]
          obtain ⟨f1, f2⟩ := fx_def a hc j hj
          rw [f1]
          unfold slV
          rcases f2 with f2 | f2 <;> rw [f2]
          · simp
          · rfl
        · intro q hq
          have hq : q ≠ n := Nat.ne_of_lt hq
          exact cel_same (uK_ne hq) (by funext j; simp [hq]) rfl rfl
        · intro ci nf fx h
          have h : uK kd n (.inl (a, nfT a, fx0 a)) n = .inl (ci, nf, fx) := h
          rw [uK_eq] at h; cases h; rfl
      have hg := k H1 locs ls hL hr (va_S_push hS z1 q1)
      rw [show (List.map (rv b B0) (.ref n :: st)) = .ref (B0 + n) :: st.map (rv b B0) by simp [rv, adr, Nat.ne_of_lt hn]] at hg
      exact hg
    · cases h
  · next t cv st' =>
    have hl : len = 2 := by simpa [stdL] using hl
    subst hl
    split at h
    · next hc =>
      cases h
      obtain ⟨h4, rfl, hn, hc0, hcl, hkc, hsc⟩ := hc
      have hsz : H.size = B0 + n := hM.2.1 rfl
      have ho : newarray.typeOf t = tyT a := ho
      have hbytes : cv.toNatClampNeg * componentBytes (newarray.typeOf t) ≤ 536870912 := by
        rw [ho]
        rcases (show a = 0 ∨ a = 1 ∨ a = 2 ∨ a = 3 by omega) with rfl | rfl | rfl | rfl <;> simp only [tyT, List.getD_eq_getElem?_getD, List.getElem?_cons_zero, List.getElem?_cons_succ, Option.getD_some, componentBytes] <;> omega
      refine va_newaK hx hb (by rw [ho]; exact hts _ (arrB a h4)) rfl hd rfl hc0 rfl hbytes hkc hsc hsz fun H1 cA' e1 z1 q1 hAr hNm => ?_
      have z1 : H1.size = H.size + 1 := by rw [z1, hsz]
      have q1 : ∀ q, q < H.size → H1[q]? = H[q]? := fun q hq => q1 q (by rw [← hsz]; exact hq)
      rw [ho] at e1 hNm
      have hcA : cA' = cA a := by
        have hty : (tysL cA)[a]? = some (cA a, tyT a) := by
          rcases (show a = 0 ∨ a = 1 ∨ a = 2 ∨ a = 3 by omega) with rfl | rfl | rfl | rfl <;> rfl
        have h2 := (hK.2 a _ hty).2
        rcases (show a = 0 ∨ a = 1 ∨ a = 2 ∨ a = 3 by omega) with rfl | rfl | rfl | rfl <;> exact Option.some.inj (hNm.symm.trans h2)
      subst hcA
      have hkk : uK kd n (.inr (a, cv.toNatClampNeg, none)) n = .inr (a, cv.toNatClampNeg, none) := uK_eq
      have hr : RelM D cA B0 b Ln xs (true, n + 1, uK kd n (.inr (a, cv.toNatClampNeg, none)), (fun q j => if q = n then 0 else σ q j), (fun q j => if q = n then 0 else lo q j), (fun q j => if q = n then 0 else db q j)) H1 := by
        refine hM.push rfl hsz hn ?_ ?_ z1 q1 (fun q hq => uK_ne hq) (fun j => if_neg (Ne.symm (Nat.ne_of_lt hn))) ?_
        · rw [cel_num (μ := (true, n + 1, uK kd n (.inr (a, cv.toNatClampNeg, none)), (fun q j => if q = n then 0 else σ q j), (fun q j => if q = n then 0 else lo q j), (fun q j => if q = n then 0 else db q j))) hkk]
          show H1[B0 + n]? = _
          rw [e1]
          congr 1
          rcases (show a = 0 ∨ a = 1 ∨ a = 2 ∨ a = 3 by omega) with rfl | rfl | rfl | rfl <;> simp [vp_cell, tyT, defaultValue]
        · intro q hq
          have hq : q ≠ n := Nat.ne_of_lt hq
          exact cel_same (uK_ne hq) (by funext j; simp [hq]) (by funext j; simp [hq]) (by funext j; simp [hq])
        · intro ci nf fx h
          have h : uK kd n (.inr (a, cv.toNatClampNeg, none)) n = .inl (ci, nf, fx) := h
          rw [uK_eq] at h; cases h
      have hg := k H1 locs ls hL hr (va_S_push hS z1 q1)
      rw [show (List.map (rv b B0) (.ref n :: st')) = .ref (B0 + n) :: st'.map (rv b B0) by simp [rv, adr, Nat.ne_of_lt hn]] at hg
      exact hg
    · cases h
  · next i cv st' =>
    have hl : len = 3 := by simpa [stdL] using hl
    subst hl
    split at h
    · next hc =>
      cases h
      obtain ⟨h4, h8, rfl, hn, hc0, hcl, hkc, hsc⟩ := hc
      have hsz : H.size = B0 + n := hM.2.1 rfl
      obtain ⟨C, o1, o2⟩ := ho
      obtain ⟨C', t1, t2, t3, t4⟩ := tyR (cA := cA) h4 h8
      have hCC : C = C' := by rw [o1] at t3; cases t3; rfl
      subst hCC
      refine W.anew hx hb hown (hts _ o2) (va_AO.use (hCX.2.2.2.2.2.2.2.2.2 C t4)) rfl hd rfl hc0 (by omega) hkc hsc fun cA' kA comp f1 f2 f3 f4 => ?_
      generalize hH1 : H.push ({ cls := cA', slots := Array.replicate cv.toNatClampNeg .null, vm := .none } : Cell) = H1
      have z1 : H1.size = H.size + 1 := by rw [← hH1, Array.size_push]
      have e1 : H1[H.size]? = some (arrV cA' cv.toNatClampNeg (fun _ => .null)) := by rw [← hH1, Array.getElem?_push_size, ← arrV_new]
      have q1 : ∀ q : Nat, q < H.size → H1[q]? = H[q]? := fun q hq => by rw [← hH1, Array.getElem?_push, if_neg (Nat.ne_of_lt hq)]
      have hcA : cA' = cA a := by
        obtain ⟨_, _, _, _, _, g4⟩ := (hK.2 a _ t1).2
        exact Option.some.inj (f1.symm.trans g4)
      subst hcA
      have hkk : uK kd n (.inr (a, cv.toNatClampNeg, some (fun _ => none))) n = .inr (a, cv.toNatClampNeg, some (fun _ => none)) := uK_eq
      have hr : RelM D cA B0 b Ln xs (true, n + 1, uK kd n (.inr (a, cv.toNatClampNeg, some (fun _ => none))), σ, lo, db) H1 := by
        refine hM.push rfl hsz hn ?_ ?_ z1 q1 (fun q hq => uK_ne hq) (fun j => rfl) ?_
        · rw [cel_ref (μ := (true, n + 1, uK kd n (.inr (a, cv.toNatClampNeg, some (fun _ => none))), σ, lo, db)) hkk]
          show H1[B0 + n]? = _
          rw [← hsz, e1]
          rfl
        · intro q hq
          have hq : q ≠ n := Nat.ne_of_lt hq
          exact cel_same (uK_ne hq) rfl rfl rfl
        · intro ci nf fx h
          have h : uK kd n (.inr (a, cv.toNatClampNeg, some (fun _ => none))) n = .inl (ci, nf, fx) := h
          rw [uK_eq] at h; cases h
      have hg := k H1 locs ls hL hr (va_S_push hS z1 q1)
      rw [show (List.map (rv b B0) (.ref n :: st')) = .ref H.size :: st'.map (rv b B0) by simp [rv, adr, Nat.ne_of_lt hn, hsz]] at hg
      exact hg
    · cases h
  · next i o st' =>
    have hl : len = 3 := by simpa [stdL] using hl
    subst hl
    split at h
    · next hc =>
      cases h
      obtain ⟨rfl, c1, c2, c3, c4⟩ := hc
      obtain ⟨o1, o2, o3⟩ := ho.1 rfl
      have hsum : ((st'.map (rv b B0)).map fun v => v.category).sum ≤ 4 := by
        have : ∀ (t : List Value), (∀ v ∈ t, v.category = 1) → ((t.map (rv b B0)).map fun v => v.category).sum = t.length := by
          intro t
          induction t with
          | nil => intro _; rfl
          | cons v t ih =>
            intro ht
            simp only [List.map_cons, List.sum_cons, List.length_cons, rv_cat, ht v List.mem_cons_self]
            have := ih (fun w hw => ht w (List.mem_cons_of_mem _ hw))
            omega
        rw [this st' c4]; exact c3
      have hroom : 2 * (F0 m pc ls (.ref (adr b B0 o) :: st'.map (rv b B0))).monitorRoom + ((st'.map (rv b B0)).map fun v => v.category).sum ≤ 8 := lv_room (by omega)
      exact W.objInit hx hb hown (hts _ o1) (hts _ o2) (hts _ o3) (g := F0 m pc ls (.ref (adr b B0 o) :: st'.map (rv b B0))) rfl (hL.1.trans hml.symm) rfl hd c1 (by show _ ≤ mW mm; omega) (k H locs ls hL hM hS)
    · cases h
  · cases h
end OK
