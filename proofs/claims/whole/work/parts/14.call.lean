/-! calls -/
def wsM (c : Nat) : List Cond := (if mH c = [] then Cond.code (mY c) (mB c) (mL c) (mR c) else Cond.codeWith (mY c) (mB c) (mL c) (mR c) (mH c)) :: BIG
section CT
variable (D : va_G) (cA : Nat → ClassId) (B0 b Ln : Nat) (xs : Nat → Int32)
def Px (as : List Value) (μ : Me) : Array Value → State → Prop := fun a U => a = (as.map (rv b B0)).toArray ∧ CX D cA B0 b Ln xs U ∧ RelM D cA B0 b Ln xs μ U.heap
def Qx (o : Ou) (μ' : Me) : Array Value → State → Outcome → State → Prop := fun _ st oc t => ∃ v, o = .inl v ∧ oc = .returned (v.map (rv b B0)) ∧ RelM D cA B0 b Ln xs μ' t.heap ∧ va_F (AA B0) st t
def XX (o : Ou) (μ' : Me) : String → State → State → Prop := fun E st t => ∃ n, o = .inr n ∧ E = exN n ∧ n < 6 ∧ RelM D cA B0 b Ln xs μ' t.heap ∧ va_F (AA B0) st t
def Ctr (l : Launch) (c : Nat) (as : List Value) (μ : Me) (o : Ou) (μ' : Me) : Prop := vx_Met l (mY c) (wsM c) (rmM c) (Px D cA B0 b Ln xs as μ) (Qx D cA B0 b Ln xs o μ') (XX D cA B0 b Ln xs o μ') (mC c) (mS c) (AA B0)
end CT
section CALL
variable {D : va_G} {cA : Nat → ClassId} {B0 b Ln : Nat} {xs : Nat → Int32} {mm : Nat} {p : Program} {l : Launch} {e : Env} {s : State} {m : MethodId} {args : Array Value} {below : List Frame} {meth : Method} {cd : Code} {Q : State → Prop}
variable {H : Heap} {locs : List Loc} {pc : Nat} {ls : Array Slot} {rest : List Value} {kc sc : Nat}
theorem Px_blind {as : List Value} {μ : Me} : FrameBlind (Px D cA B0 b Ln xs as μ) := by
  intro a U g mk h
  exact ⟨h.1, CX.moved (U := U.calling g mk a) h.2.1 (State.WarmedH.refl U) (Nat.le_refl _) (fun _ _ _ => rfl), h.2.2⟩
theorem Px_at (hB : BX D cA B0 b Ln xs mm p s m args meth cd) (hS : va_S (AA B0) s.heap H locs) {as : List Value} {μ : Me} (hM : RelM D cA B0 b Ln xs μ H) : ∀ U : State, U.heap = H → s.WarmedH U.vm → Px D cA B0 b Ln xs as μ (as.map (rv b B0)).toArray U := by
  intro U hU hW
  have hCX := hB.2.2.2.2.2.2.2.2.2
  exact ⟨rfl, hCX.moved hW (by rw [hU]; exact hS.1) (fun q h1 h2 => by rw [hU]; exact hS.2.1 q h1 h2), by rw [hU]; exact hM⟩
theorem met_of {l : Launch} {c : Nat} {as : List Value} {μ μ' : Me} {v : Option Value} (h : Ctr D cA B0 b Ln xs l c as μ (.inl v) μ') : Met l (mY c) (wsM c) (rmM c) (Px D cA B0 b Ln xs as μ) (Qx D cA B0 b Ln xs (.inl v) μ') (mC c) (mS c) (AA B0) := by
  intro p e ha hc hk s m args below hf happ hP hK
  obtain ⟨n, o, h1, h2, h3, h4⟩ := h p e ha hc hk s m args below hf happ hP hK
  refine ⟨n, o, h1, h2, h3, ?_⟩
  rcases h4 with h4 | ⟨q, -, E, ce, L, ⟨n', hn', -⟩, -⟩
  · exact h4
  · cases hn'
theorem run_of {mc ms : Nat} {g : JFrame} {Qa : State → Outcome → State → Prop} {XC : String → State → State → Prop} {free : Addr → Prop} (h : va_Run p l e (rmM mm) s m args below meth cd H locs kc sc mc ms g rest Qa free) : vx_Run p l e (rmM mm) s m args below meth cd H locs kc sc mc ms g rest Qa XC free :=
  fun T hT X => Or.inl (h T hT X)
theorem k_run {mc ms : Nat} {a : Array Value} {o : Ou} {μ' : Me} {st0 : List Value} (hr : vx_Run p l e (rmM mm) s m args below meth cd H locs kc sc mc ms (F0 m pc ls st0) rest (Qx D cA B0 b Ln xs o μ' a) (XX D cA B0 b Ln xs o μ') (AA B0)) (hS : va_S (AA B0) s.heap H locs)
    (kk : ∀ v, o = .inl v → ∀ (H1 : Heap) (locs1 : List Loc), RelM D cA B0 b Ln xs μ' H1 → va_S (AA B0) s.heap H1 locs1 → W p l e (rmM mm) s m args below meth cd H1 locs1 (kc + mc) (sc + ms) Q (F0 m (pc + 3) ls ((v.map (rv b B0)).toList ++ rest)))
    (kx : ∀ n, o = .inr n → n < 6 → ∀ (H1 : Heap) (locs1 : List Loc) (q : Addr) (ce : Cell), RelM D cA B0 b Ln xs μ' H1 → va_S (AA B0) s.heap H1 locs1 → H1[q]? = some ce → ce.vm = .none → s.vm.findClass (exN n) = some ce.cls → vx_W p l e (rmM mm) s m args below meth cd H1 locs1 (kc + mc) (sc + ms) Q (F0 m pc ls rest) q) : W p l e (rmM mm) s m args below meth cd H locs kc sc Q (F0 m pc ls st0) := by
  intro T hT X
  rcases hr T hT X with ⟨v, st₀, t, T', L, h0, X', hL, e1, e2, ⟨v', ho, hv, hM', hF⟩, st⟩ | ⟨q, st₀, t, T', L, E, ce, h0, X', hL, e1, e2, ⟨n, ho, hE, hn, hM', hF⟩, hce, hcv, hcl, st⟩
  · obtain ⟨-, -, k3⟩ := vx_keep h0 e1 hS (fun _ _ h => h) (fun _ h => h) hL hF
    cases hv
    obtain ⟨t2, a1, b1⟩ := kk v' ho T'.heap (locs ++ L) (by rw [e1]; exact hM') k3 T' rfl X'
    exact ⟨t2, st t2 a1, b1⟩
  · obtain ⟨-, -, k3⟩ := vx_keep h0 e1 hS (fun _ _ h => h) (fun _ h => h) hL hF
    subst hE
    obtain ⟨t2, a1, b1⟩ := kx n ho hn T'.heap (locs ++ L) q ce (by rw [e1]; exact hM') k3 (by rw [e1]; exact hce) hcv hcl T' rfl X'
    exact ⟨t2, st.trans a1, b1⟩
theorem hnd_spec {pc E hp : Nat} : ∀ {hh : List (Nat × Nat × Nat × Nat)}, hnd hh pc E = some hp → ∃ pre q suf, hh = pre ++ q :: suf ∧ q.2.2.1 = hp ∧ q.1 ≤ pc ∧ pc < q.2.1 ∧ exOf q.2.2.2 = E ∧ ∀ z ∈ pre, ¬ (z.1 ≤ pc ∧ pc < z.2.1 ∧ exOf z.2.2.2 = E)
  | [], h => by cases h
  | q :: t, h => by
    simp only [hnd] at h
    split at h
    · next hc =>
      cases h
      exact ⟨[], q, t, rfl, rfl, hc.1, hc.2.1, hc.2.2, fun z hz => by cases hz⟩
    · next hc =>
      obtain ⟨pre, q', suf, h1, h2, h3, h4, h5, h6⟩ := hnd_spec h
      exact ⟨q :: pre, q', suf, by rw [h1]; rfl, h2, h3, h4, h5, fun z hz => by
        rcases List.mem_cons.mp hz with e | e
        · rw [e]; exact hc
        · exact h6 z e⟩
theorem LVr.drop {ls ls' : Array Slot} {L : Lc} {i : Nat} {w : Value} (h : LVr b B0 mm ls L) (hs : isScr mm = false)
    (h' : lv_has ls' (mL mm) ((i, w) :: (toAl b B0 L).filter (fun q => !(q.1 == i) && !(q.1 + 1 == i && q.2.category == 2)))) : LVr b B0 mm ls' (L.set i .null) := by
  refine ⟨h'.1, h'.2.1, fun k u hk hu => ?_, fun _ u hu => ?_⟩
  · rw [List.getElem?_set] at hk
    split at hk
    · split at hk
      · cases hk; exact absurd rfl hu
      · cases hk
    · next e1 =>
      have hc := h.2.2.2 hs u (List.mem_of_getElem? hk)
      refine h'.2.2 (k, rv b B0 u) (List.mem_cons_of_mem _ (List.mem_filter.mpr ⟨mem_toAl.mpr ⟨u, hk, hu, rfl⟩, ?_⟩))
      simp [rv_cat, Ne.symm e1, hc]
  · rcases List.mem_or_eq_of_mem_set hu with q | q
    · exact h.2.2.2 hs u q
    · rw [q]; rfl
theorem cov_iff (z : Nat × Nat × Nat × Nat) (pc : Nat) : covers (⟨z.1, z.2.1, z.2.2.1, z.2.2.2⟩ : ExceptionTableEntry) pc = true ↔ z.1 ≤ pc ∧ pc < z.2.1 := by
  simp [covers]
theorem big_good : GoodIn BIG BIG := fun w h => ⟨h, good_of_word (List.mem_filter.mp h).2⟩
theorem casts : ∀ E, E < 6 → Cond.castable (exN E) (exN E) ∈ NGL
  | 0, _ => List.mem_filter.mpr ⟨List.mem_of_getElem? (i := 427) (by decide +kernel), rfl⟩
  | 1, _ => List.mem_filter.mpr ⟨List.mem_of_getElem? (i := 528) (by decide +kernel), rfl⟩
  | 2, _ => List.mem_filter.mpr ⟨List.mem_of_getElem? (i := 587) (by decide +kernel), rfl⟩
  | 3, _ => List.mem_filter.mpr ⟨List.mem_of_getElem? (i := 818) (by decide +kernel), rfl⟩
  | 4, _ => List.mem_filter.mpr ⟨List.mem_of_getElem? (i := 932) (by decide +kernel), rfl⟩
  | 5, _ => List.mem_filter.mpr ⟨List.mem_of_getElem? (i := 1063) (by decide +kernel), rfl⟩
  | n + 6, h => absurd h (by omega)
end CALL
