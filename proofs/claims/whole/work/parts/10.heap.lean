/-! the steps of the evaluator are the machine's: fields and rows -/
section REL
variable {D : va_G} {cA : Nat → ClassId} {B0 b Ln : Nat} {xs : Nat → Int32}
/-- one cell is written -/
theorem RelM.put {μ μ' : Me} {H H1 : Heap} (h : RelM D cA B0 b Ln xs μ H) {a : Nat} (ha : a < μ.2.1) (hn : μ'.2.1 = μ.2.1) (hf : μ'.1 = μ.1)
    (he : va_at D vwC (B0 + a, cel b B0 cA μ' a) H1) (ho : ∀ q, q ≠ a → q < μ.2.1 → cel b B0 cA μ' q = cel b B0 cA μ q) (z : H1.size = H.size) (oq : ∀ q, q ≠ B0 + a → H1[q]? = H[q]?)
    (hk : ∀ q, q ≠ a → μ'.2.2.1 q = μ.2.2.1 q) (hs : a ≠ SCR) (hσ : ∀ j, μ'.2.2.2.1 SCR j = μ.2.2.2.1 SCR j) (hnf : ∀ ci nf fx, μ'.2.2.1 a = .inl (ci, nf, fx) → nf = nfT ci) : RelM D cA B0 b Ln xs μ' H1 := by
  obtain ⟨h1, h2, h3, h4, h5, h6, h7, h8⟩ := h
  refine ⟨?_, fun q => by rw [z, hn]; exact h2 (by rw [← hf]; exact q), by rw [z, hn]; exact h3, by rw [hn]; exact h4, fun q q1 q2 => ?_, ?_, fun j => by rw [hσ]; exact h7 j, fun q ci nf fx e => ?_⟩
  · rw [← wl_set (μ := μ) (a := a) hn rfl ho]
    exact h1.set wl_D (wl_get ha) he oq
  · rw [hn] at q1
    rw [hk q (by omega)]; exact h5 q q1 q2
  · rw [hk SCR (Ne.symm hs)]; exact h6
  · by_cases hq : q = a
    · subst hq; exact hnf ci nf fx e
    · rw [hk q hq] at e; exact h8 q ci nf fx e
theorem u2_eq {α : Type} {f : Nat → Nat → α} {a k : Nat} {v : α} : u2 f a k v a = fun j => if j = k then v else f a j := by
  funext j; simp [u2]
theorem u2_ne {α : Type} {f : Nat → Nat → α} {a k q : Nat} {v : α} (h : q ≠ a) : u2 f a k v q = f q := by
  funext j; simp [u2, h]
theorem uK_eq {f : Nat → Kd} {a : Nat} {v : Kd} : uK f a v a = v := by simp [uK]
theorem uK_ne {f : Nat → Kd} {a q : Nat} {v : Kd} (h : q ≠ a) : uK f a v q = f q := by simp [uK, h]
def slV (b B0 : Nat) (fx : Nat → Option Value) (f : Nat → Int32) (k : Nat) : Value := match fx k with
  | some v => rv b B0 v
  | none => .int (f k)
theorem cel_obj {μ : Me} {a ci nf : Nat} {fx : Nat → Option Value} (h : μ.2.2.1 a = .inl (ci, nf, fx)) : cel b B0 cA μ a = .inr (ci, (List.range nf).map (slV b B0 fx (μ.2.2.2.1 a))) := by
  simp only [cel, h]; rfl
theorem cel_ref {μ : Me} {a ti len : Nat} {f : Nat → Option Nat} (h : μ.2.2.1 a = .inr (ti, len, some f)) : cel b B0 cA μ a = .inl (cA ti, len, .inr (.inr (.inr (.inr (fun j => (f j).map (adr b B0)))))) := by
  simp only [cel, h]
theorem cel_num {μ : Me} {a ti len : Nat} (h : μ.2.2.1 a = .inr (ti, len, none)) : cel b B0 cA μ a = .inl (cA ti, len, if ti = 2 then .inr (.inl (μ.2.2.2.2.1 a)) else if ti = 3 then .inr (.inr (.inr (.inl (μ.2.2.2.2.2 a)))) else .inl (μ.2.2.2.1 a)) := by
  simp only [cel, h]
theorem cel_same {μ μ' : Me} {q : Nat} (h1 : μ'.2.2.1 q = μ.2.2.1 q) (h2 : μ'.2.2.2.1 q = μ.2.2.2.1 q) (h3 : μ'.2.2.2.2.1 q = μ.2.2.2.2.1 q) (h4 : μ'.2.2.2.2.2 q = μ.2.2.2.2.2 q) : cel b B0 cA μ' q = cel b B0 cA μ q := by
  simp only [cel, h1, h2, h3, h4]
theorem vpV_map {nf : Nat} {F : Nat → Value} {k : Nat} (h : k < nf) : vp_V ((List.range nf).map F) k = F k := by
  simp [vp_V, h]
end REL
section OK
variable {D : va_G} {cA : Nat → ClassId} {B0 b Ln : Nat} {xs : Nat → Int32} {mm : Nat} {p : Program} {l : Launch} {e : Env} {s : State} {m : MethodId} {args : Array Value} {below : List Frame} {meth : Method} {c : Code} {Q : State → Prop}
variable {H : Heap} {locs : List Loc} {pc : Nat} {ls : Array Slot} {rest : List Value} {kc sc : Nat} {fr : Bool} {n : Nat} {kd : Nat → Kd} {σ : Nat → Nat → Int32} {lo : Nat → Nat → Int64} {db : Nat → Nat → UInt64}
theorem hK_of (hB : BX D cA B0 b Ln xs mm p s m args meth c) : va_K D vwC (tysL cA) s := hB.2.2.2.2.2.2.2.2.2.1
theorem k_get (hB : BX D cA B0 b Ln xs mm p s m args meth c) {μ : Me} (hM : RelM D cA B0 b Ln xs μ H) {o ci nf k i : Nat} {fx : Nat → Option Value} (hk : μ.2.2.1 o = .inl (ci, nf, fx)) (hF : FldOk mm i ci k) (hd : decode (mB mm) pc = .ok (.getfield i, 3))
    (kk : W p l e (rmM mm) s m args below meth c H locs kc sc Q (F0 m (pc + 3) ls (rv b B0 ((fx k).getD (.int (μ.2.2.2.1 o k))) :: rest))) : W p l e (rmM mm) s m args below meth c H locs kc sc Q (F0 m pc ls (.ref (adr b B0 o) :: rest)) := by
  have hK := hK_of hB
  obtain ⟨hx, hb, -, -, hown, hts, -⟩ := hB
  obtain ⟨hl, ha, hs, hnf⟩ := hM.obj hk
  obtain ⟨hc, hkn, hlink⟩ := hF
  rw [ha]
  have hg := wl_get (b := b) (B0 := B0) (cA := cA) hl
  rw [cel_obj hk] at hg
  refine va_get hx hb hts (inB ci hc) hown hK hM.1 o hg (vwC_get ci hc) k hkn (hts _ hlink) (fun x h => by rw [fT_own ci hc k hkn] at h; exact h) (v := slV b B0 fx (μ.2.2.2.1 o) k) ?_ hd ?_
  · rw [List.getElem?_map, List.getElem?_range (by rw [hnf]; exact hkn)]; rfl
  · have e : rv b B0 ((fx k).getD (.int (μ.2.2.2.1 o k))) = slV b B0 fx (μ.2.2.2.1 o) k := by
      unfold slV
      cases fx k <;> rfl
    rw [e] at kk
    exact kk
/-- a field is written: the cell, what the machine asks -/
theorem k_put (hB : BX D cA B0 b Ln xs mm p s m args meth c) {μ μ' : Me} (hM : RelM D cA B0 b Ln xs μ H) (hS : va_S (AA B0) s.heap H locs) {o ci nf k i : Nat} {fx fx' : Nat → Option Value} {v : Value} (hk : μ.2.2.1 o = .inl (ci, nf, fx)) (hF : FldOk mm i ci k) (hd : decode (mB mm) pc = .ok (.putfield i, 3))
    (hn : narrow (ftT ci k) v = v) (hfit : fits (ftT ci k) v = true) (hfin : (fT ci k).2.2.2 = false ∨ ((fT ci k).2.2.2 = true ∧ (mY mm).name = "<init>" ∧ mO mm = ci))
    (hk' : μ'.2.2.1 o = .inl (ci, nf, fx')) (hnn : μ'.2.1 = μ.2.1) (hff : μ'.1 = μ.1) (hv : ∀ j, j < nf → slV b B0 fx' (μ'.2.2.2.1 o) j = updV (slV b B0 fx (μ.2.2.2.1 o)) k v j)
    (ho : ∀ q, q ≠ o → μ'.2.2.1 q = μ.2.2.1 q ∧ μ'.2.2.2.1 q = μ.2.2.2.1 q) (hlo : μ'.2.2.2.2 = μ.2.2.2.2)
    (kk : ∀ (H1 : Heap) (locs1 : List Loc), RelM D cA B0 b Ln xs μ' H1 → va_S (AA B0) s.heap H1 locs1 → W p l e (rmM mm) s m args below meth c H1 locs1 kc sc Q (F0 m (pc + 3) ls rest)) : W p l e (rmM mm) s m args below meth c H locs kc sc Q (F0 m pc ls (v :: .ref (adr b B0 o) :: rest)) := by
  have hK := hK_of hB
  obtain ⟨hx, hb, -, -, hown, hts, -, -, hinit, -⟩ := hB
  obtain ⟨hl, ha, hs, hnf⟩ := hM.obj hk
  obtain ⟨hc, hkn, hlink⟩ := hF
  rw [ha]
  have hg := wl_get (b := b) (B0 := B0) (cA := cA) hl
  rw [cel_obj hk] at hg
  have hap := va_apart (own := cN (mO mm)) hts (inB ci hc) (ftT ci) (fT_ty ci hc) (fT_nm ci hc) hK (vwC_get ci hc)
  have hat := hM.1 o _ hg
  obtain ⟨r, hr, cell, q1, q2, q3, q4⟩ := hat
  have hr' := Option.some.inj (hr.symm.trans (vwC_get ci hc))
  subst hr'
  obtain ⟨hSl, hfc, kC, hkC, hkind⟩ := hK.1 ci _ (vwC_get ci hc)
  obtain ⟨cf, kf, fi, f, hi, hsl⟩ := hSl k hkn
  have hi' : s.fieldFound? (cN ci) (fT ci k).2.1 (fT ci k).2.2.1 = some (cf, kf, fi, f) := by rw [fT_own ci hc k hkn] at hi; exact hi
  have hst := (u_facts hfc hkC (u_lays hts (inB ci hc) hkn) hi).1
  have hlay := hts _ (inB ci hc _ (u_in_lay hkn))
  have hlt : f.slot < cell.slots.size := by
    have := q4 k hkn
    rw [← hsl] at this
    exact (Array.getElem?_eq_some_iff.mp this).1
  have done : ∀ H' : Heap, H'[B0 + o]? = some (cell.setSlot f.slot v) → H'.size = H.size → (∀ q, q ≠ B0 + o → H'[q]? = H[q]?) → W p l e (rmM mm) s m args below meth c H' (locs ++ [⟨B0 + o, f.slot⟩]) kc sc Q (F0 m (pc + 3) ls rest) := by
    intro H' e1 e2 e3
    refine kk H' _ (hM.put (μ' := μ') hl hnn hff ?_ ?_ e2 e3 (fun q hq => (ho q hq).1) hs ?_ ?_) (hS.put e2 e3 (Nat.le_add_right _ _))
    · rw [cel_obj hk']
      refine ⟨_, vwC_get ci hc, _, e1, q2, q3, fun j hj => ?_⟩
      dsimp only at hj ⊢
      rw [vpV_map (by rw [hnf]; exact hj), hv j (by rw [hnf]; exact hj), hsl]
      have := t_set q4 hap hkn v j hj
      rw [this]
      unfold updV
      split
      · rfl
      · rw [vpV_map (by rw [hnf]; exact hj)]
    · intro q hq _
      exact cel_same (ho q hq).1 (ho q hq).2 (by rw [hlo]) (by rw [hlo])
    · intro j; rw [(ho SCR (Ne.symm hs)).2]
    · intro ci' nf' fx'' h; rw [hk'] at h; cases h; exact hnf
  rcases hfin with hfin | ⟨hfin, hi0, hci⟩
  · unfold u_lay at hlay
    rw [if_neg (by rw [hfin]; decide)] at hlay
    have h6 := u_store hfc hkC hkind hlay hi (fT_ty ci hc k hkn) hn hfit
    exact W.putK hx hb (f := f) ⟨hown, hts _ hlink, ⟨_, _, _, hi'⟩, hst⟩ (by rw [q2]; exact h6) q1 q3 hlt rfl rfl hd done
  · unfold u_lay at hlay
    rw [if_pos hfin] at hlay
    have hcf : m.cls = cf := by
      obtain ⟨_, _, c', _, _, _, -, -, hf', -, -, -, hown2, -⟩ := Cond.laysFinal_spec hlay
      have e1 : c' = cf := by have := hi.symm.trans hf'; simp at this; exact this.1.symm
      rw [fT_own ci hc k hkn] at hown2
      rw [hci] at hown
      rw [← e1]; exact Option.some.inj (hown.symm.trans hown2)
    have h6 := u_fits hfc hkC hkind (Or.inr hlay) hi (fT_ty ci hc k hkn) hn hfit
    exact W.putFinK hx hb hown (hts _ hlink) hi' hst hcf (hinit hi0) (by rw [q2]; exact h6) q1 q3 hlt rfl rfl hd done
end OK
