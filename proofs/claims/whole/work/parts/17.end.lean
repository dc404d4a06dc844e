/-! ends of methods -/
theorem va_ofWf {l : Launch} {y : MethodName} {ws ws' : List Cond} {rm : Room} {Pc : Array Value → State → Prop} {Qc : Array Value → State → Outcome → State → Prop} {XC : String → State → State → Prop} {mc ms : Nat} {free : Addr → Prop} {cc : ByteArray} {maxL : Nat} {ret : Option FieldType}
    (hy : plainFor y = true) (hw : ws = Cond.code y cc maxL ret :: ws')
    (body : ∀ p e s m args below meth c s₁, BodyLoose p l y (headSpec ws rm) cc maxL ret e s m args below meth c s₁ → c.maxLocals = maxL → (∀ x ∈ c.exceptionTable.toList, False) → Pc args s →
      W p l e (headSpec ws rm).room s m args below meth c s.heap [] 0 0 (vx_MQ below Qc XC args s mc ms free) (entryFrame m args maxL)) : vx_Met l y ws rm Pc Qc XC mc ms free := by
  refine MetFree.of_bodySF (code := cc) (maxLocals := maxL) (ret := ret) hy ?_ ?_
  · intro args s m h hn
    obtain ⟨meth, c, h1, h2, h3, h4, h5, h6, -, -⟩ := Cond.code_spec hn (atoms_spec (ws := ws) h _ (by rw [hw]; exact List.mem_cons_self))
    exact ⟨meth, c, h1, h2, h3, h4, h5, h6⟩
  · intro p e s m args below meth c s₁ B hml hP _
    have hh0 : s₁.heap = s.heap := by rw [B.state]; rfl
    have ht : ∀ x ∈ c.exceptionTable.toList, False := by
      obtain ⟨meth9, c9, h1, h2, -, -, -, -, h7, -⟩ := Cond.code_spec B.named (atoms_spec (ws := ws) B.pre _ (by rw [hw]; exact List.mem_cons_self))
      cases Option.some.inj (h1.symm.trans B.method)
      cases Option.some.inj (h2.symm.trans (Stand.of_body B).code)
      intro x hx
      rw [Array.isEmpty_iff.mp h7] at hx
      cases hx
    obtain ⟨t, a1, o, b1, b2, b3⟩ := body p e s m args below meth c s₁ B hml ht hP s₁ hh0 (Stand.of_body B)
    exact ⟨t, o, a1, b1, b2, b3⟩
section FIN
variable {D : va_G} {cA : Nat → ClassId} {B0 b Ln : Nat} {xs : Nat → Int32} {mm : Nat} {p : Program} {l : Launch} {e : Env} {s : State} {m : MethodId} {args : Array Value} {below : List Frame} {meth : Method} {cd : Code}
theorem RelM.grow {n : Nat} {kd : Nat → Kd} {σ : Nat → Nat → Int32} {lo : Nat → Nat → Int64} {db : Nat → Nat → UInt64} {fr : Bool} {H H1 : Heap} (h : RelM D cA B0 b Ln xs (fr, n, kd, σ, lo, db) H) (z : H.size ≤ H1.size) (oq : ∀ q, q < H.size → H1[q]? = H[q]?) : RelM D cA B0 b Ln xs (false, n, kd, σ, lo, db) H1 := by
  obtain ⟨h1, h2, h3, h4, h5, h6, h7, h8⟩ := h
  exact ⟨h1.kept (fun k q hq => oq q.1 ((h1 k q hq).lt)), (fun q => by cases q), Nat.le_trans h3 z, h4, h5, h6, h7, h8⟩
set_option maxHeartbeats 1000000 in
theorem okFin (hl : l.stackTraces = false) (hB : BX D cA B0 b Ln xs mm p s m args meth cd) {op : Op} {x : Sx} {o : Ou} {μ' : Me} (hk : OpOk mm x.1 op) (h : fin mm op x = some (o, μ')) : WS D cA B0 b Ln xs mm p l e s m args below meth cd (vx_MQ below (Qx D cA B0 b Ln xs o μ') (XX D cA B0 b Ln xs o μ') args s (mC mm) (mS mm) (AA B0)) x := by
  have hCX := hB.2.2.2.2.2.2.2.2.2
  obtain ⟨hx, hbb, hr, hml, hown, hts, hlk, htab, -⟩ := hB
  obtain ⟨pc, L, st, kc, sc, fr, n, kd, σ, lo, db⟩ := x
  obtain ⟨ins, len, a, b', c'⟩ := op
  obtain ⟨hd, hln, ho⟩ := hk
  intro H locs ls hL hM hS
  have hq : ∀ v, o = .inl v → μ' = (fr, n, kd, σ, lo, db) → ∀ t : State, t.heap = H → s.WarmedH t.vm → Qx D cA B0 b Ln xs o μ' args s (.returned (v.map (rv b B0))) t := by
    intro v hv hμ t ht _
    exact ⟨v, hv, rfl, by rw [hμ, ht]; exact hM, hS.F ht⟩
  simp only [fin] at h
  split at h
  · next v =>
    split at h
    · next hc =>
      cases h
      obtain ⟨h1, h2, hc⟩ := hc
      have hln : len = 1 := by simpa [stdL] using hln
      subst hln
      refine W.widen h1 h2 (vx_ret ?_)
      rcases hc with hc | ⟨hc, hv⟩ | ⟨hc, hv⟩
      · exact W.iret hx hbb (by rw [hr, hc]) (hq _ rfl rfl) hS.2.2 hd hlk
      · refine W.zret (ty := .boolean) hx hbb (by rw [hr, hc]) ?_ (hq _ rfl rfl) hS.2.2 hd hlk
        rcases hv with rfl | rfl <;> rfl
      · refine W.zret (ty := .char) hx hbb (by rw [hr, hc]) ?_ (hq _ rfl rfl) hS.2.2 hd hlk
        show Value.int (vp_nar .char v) = _
        rw [hv]
    · cases h
  · next v =>
    split at h
    · next hc =>
      cases h
      obtain ⟨h1, h2, hc⟩ := hc
      have hln : len = 1 := by simpa [stdL] using hln
      subst hln
      exact W.widen h1 h2 (vx_ret (W.fret hx hbb (by rw [hr, hc]) (hq _ rfl rfl) hS.2.2 hd hlk))
    · cases h
  · next v =>
    split at h
    · next hc =>
      cases h
      obtain ⟨h1, h2, hc⟩ := hc
      have hln : len = 1 := by simpa [stdL] using hln
      subst hln
      exact W.widen h1 h2 (vx_ret (W.dret hx hbb (by rw [hr, hc]) (hq _ rfl rfl) hS.2.2 hd hlk))
    · cases h
  · split at h
    · next hc =>
      cases h
      obtain ⟨h1, h2, hc⟩ := hc
      have hln : len = 1 := by simpa [stdL] using hln
      subst hln
      exact W.widen h1 h2 (vx_ret (W.vret hx hbb (by rw [hr, hc]) (hq _ rfl rfl) hS.2.2 hd hlk))
    · cases h
  · next st' i =>
    split at h
    · next hc =>
      cases h
      obtain ⟨hc12, hE, hO, hH, hst, hcat, hF, hW, hkc, hsc⟩ := hc
      have hln : len = 3 := by simpa [stdL] using hln
      subst hln
      have hne : ¬ c' = 0 := by rcases hc12 with q | q <;> omega
      simp only [if_neg hne] at ho
      obtain ⟨o1, o2, ⟨tx, o3⟩, o4, o5⟩ := ho
      rw [hO] at hown o1 o3
      obtain ⟨sa, hsa⟩ := hCX.2.2.1 _ _ _ o3
      have hcatS : ((st.map (rv b B0)).map fun v => v.category).sum ≤ 4 := by
        rw [cat_sum]
        · simpa using hst
        · intro v hv
          obtain ⟨w, hw, rfl⟩ := List.mem_map.mp hv
          rw [rv_cat]; exact hcat w hw
      have hw : ((st.map (rv b B0)).map fun v => v.category).sum + (13 * (2 + 1) + 43) ≤ mW mm := by omega
      have hfr : 2 + 3 < mF mm := by omega
      have hxx : ∀ t : State, s.vm.Alike t.vm → H.size ≤ t.heap.size → (∀ q : Nat, q < H.size → t.heap[q]? = H[q]?) → XX D cA B0 b Ln xs (.inr a) (false, n, kd, σ, lo, db) (exN a) s t := by
        intro t _ z oq
        exact ⟨a, rfl, rfl, hE, hM.grow z oq, Nat.le_trans hS.1 z, fun q h1 h2 => by rw [oq q (Nat.lt_of_lt_of_le h1 hS.1)]; exact hS.2.1 q h1 h2⟩
      have hout : ∀ pc', ∀ x ∈ cd.exceptionTable.toList, covers x pc' = false := by
        intro pc' x hx
        rw [htab, hH] at hx
        cases hx
      have hnames : ∀ n ∈ exChain, Bundle.fit n = true := by decide +kernel
      by_cases ha3 : a = 3
      · subst ha3
        have hall := List.all_eq_true.mp ex_3
        have hat : ∀ w ∈ nsAt RX8 (exI 3), w.before args s = true := by
          intro w hw
          have h1 := hall w hw
          simp only [Bool.and_eq_true, Bool.or_eq_true, decide_eq_true_eq] at h1
          obtain ⟨g1, g2 | g2, g3⟩ := h1
          · exact hts w (List.mem_filter.mpr ⟨g1, g2⟩)
          · have h2 := hCX.2.1 w (List.mem_filter.mpr ⟨g1, g2⟩)
            refine va_Nw.use ?_ h2
            cases w <;> simp only [isNG, Bool.false_eq_true] at g2 <;> rfl
        have hgood : ∀ w ∈ Cond.classLink RX8 i nsX :: Cond.initialized nsX :: nsAt RX8 (exI 3), vx_ot w = true := by
          intro w hw
          rcases List.mem_cons.mp hw with q | hw
          · rw [q]; rfl
          · rcases List.mem_cons.mp hw with q | hw
            · rw [q]; rfl
            · have h1 := hall w hw
              simp only [Bool.and_eq_true, Bool.or_eq_true, decide_eq_true_eq] at h1
              exact h1.2.2
        rcases hc12 with q | q
        · obtain ⟨d4, d6, d9⟩ := o4 q
          exact ns_throwS hx hbb hl (own := RX8) (ik := i) (is := b') (ic := exI 3) hown (hts _ o1) (hts _ (ex_ini 3 (by decide)).1) hsa hat hgood hCX.2.2.2.1 hCX.2.2.2.2.1 hS (by rw [hL.1, hml]) hd o2 d4 d6 d9 (hout _) hfr hw hkc hsc hlk hxx hS.2.2 hkc hsc
        · obtain ⟨d4, d7, d10⟩ := o5 q
          exact ns_throwSW hx hbb hl (own := RX8) (ik := i) (is := b') (ic := exI 3) hown (hts _ o1) (hts _ (ex_ini 3 (by decide)).1) hsa hat hgood hCX.2.2.2.1 hCX.2.2.2.2.1 hS (by rw [hL.1, hml]) hd o2 d4 d7 d10 (hout _) hfr hw hkc hsc hlk hxx hS.2.2 hkc hsc
      · have hall := List.all_eq_true.mp (ex_at a hE ha3)
        have hat : ∀ w ∈ vx_atS RX8 (exI a) (exN a) exChain, w.before args s = true := by
          intro w hw
          have h1 := hall w hw
          simp only [Bool.and_eq_true, Bool.or_eq_true, decide_eq_true_eq] at h1
          obtain ⟨g1, g2 | g2, g3⟩ := h1
          · exact hts w (List.mem_filter.mpr ⟨g1, g2⟩)
          · have h2 := hCX.2.1 w (List.mem_filter.mpr ⟨g1, g2⟩)
            refine va_Nw.use ?_ h2
            cases w <;> simp only [isNG, Bool.false_eq_true] at g2 <;> rfl
        have hgood : ∀ w ∈ Cond.classLink RX8 i (exN a) :: Cond.initialized (exN a) :: vx_atS RX8 (exI a) (exN a) exChain, vx_ot w = true := by
          intro w hw
          rcases List.mem_cons.mp hw with q | hw
          · rw [q]; rfl
          · rcases List.mem_cons.mp hw with q | hw
            · rw [q]; rfl
            · have h1 := hall w hw
              simp only [Bool.and_eq_true, Bool.or_eq_true, decide_eq_true_eq] at h1
              exact h1.2.2
        rcases hc12 with q | q
        · obtain ⟨d4, d6, d9⟩ := o4 q
          exact vx_throwS hx hbb hl (own := RX8) (cls := exN a) (names := exChain) (ik := i) (is := b') (ic := exI a) hown (ex_ini a hE).2 hnames (hts _ o1) (hts _ (ex_ini a hE).1) hsa hat hgood hCX.2.2.2.1 hCX.2.2.2.2.1 hS (by rw [hL.1, hml]) hd o2 d4 d6 d9 (hout _) hfr hw hkc hsc hlk hxx hS.2.2 hkc hsc
        · obtain ⟨d4, d7, d10⟩ := o5 q
          exact vx_throwSW hx hbb hl (own := RX8) (cls := exN a) (names := exChain) (ik := i) (is := b') (ic := exI a) hown (ex_ini a hE).2 hnames (hts _ o1) (hts _ (ex_ini a hE).1) hsa hat hgood hCX.2.2.2.1 hCX.2.2.2.2.1 hS (by rw [hL.1, hml]) hd o2 d4 d7 d10 (hout _) hfr hw hkc hsc hlk hxx hS.2.2 hkc hsc
    · cases h
  · cases h
theorem lv_args_mem : ∀ (vs : List Value) (i k : Nat) (w : Value), (∀ v ∈ vs, v.category = 1) → vs[k]? = some w → (i + k, w) ∈ lv_args i vs
  | [], _, _, _, _, h => by simp at h
  | v :: vs, i, 0, w, hc, h => by
    simp at h; subst h
    exact List.mem_cons_self
  | v :: vs, i, k + 1, w, hc, h => by
    have hv := hc v List.mem_cons_self
    simp only [lv_args, hv]
    have := lv_args_mem vs (i + 1) k w (fun u hu => hc u (List.mem_cons_of_mem _ hu)) (by simpa using h)
    rw [show i + (k + 1) = i + 1 + k by omega]
    exact List.mem_cons_of_mem _ this
theorem lg_len : ∀ (vs : List Value), (∀ v ∈ vs, v.category = 1) → (lg_sl vs).length = vs.length
  | [], _ => rfl
  | v :: vs, hc => by
    have hv := hc v List.mem_cons_self
    have := lg_len vs (fun u hu => hc u (List.mem_cons_of_mem _ hu))
    simp only [lg_sl, List.flatMap_cons, hv] at this ⊢
    simp [this]
/-- the state with which a method begins -/
theorem entry_of {c : Nat} {as : List Value} {μ : Me} {H : Heap} {R : Room} {Q : State → Prop} (hc : ∀ v ∈ as, v.category = 1) (hlen : as.length ≤ mL c) (hR : R = rmM c) (hM : RelM D cA B0 b Ln xs μ s.heap) (hH : H = s.heap)
    (k : WS D cA B0 b Ln xs c p l e s m args below meth cd Q (stx c as μ)) : W p l e R s m args below meth cd H [] 0 0 Q (entryFrame m (as.map (rv b B0)).toArray (mL c)) := by
  subst hR; subst hH
  have hc' : ∀ v ∈ as.map (rv b B0), v.category = 1 := by
    intro v hv
    obtain ⟨w, hw, rfl⟩ := List.mem_map.mp hv
    rw [rv_cat]; exact hc w hw
  have hl := lv_entry (as.map (rv b B0)) (n := mL c) (by rw [lg_len _ hc']; simpa using hlen)
  rw [lg_entry_eq]
  refine k s.heap [] _ ⟨hl.1, hl.2.1, fun k v hk hv => ?_, fun _ v hv => ?_⟩ hM va_S.rf
  · have hk : (as ++ List.replicate (mL c - as.length) .null)[k]? = some v := hk
    rw [List.getElem?_append] at hk
    split at hk
    · have := lv_args_mem (as.map (rv b B0)) 0 k (rv b B0 v) hc' (by rw [List.getElem?_map, hk]; rfl)
      have h2 := hl.2.2 _ this
      simpa using h2
    · have := List.mem_of_getElem? hk
      rw [List.mem_replicate] at this
      exact absurd this.2 hv
  · have hv : v ∈ as ++ List.replicate (mL c - as.length) .null := hv
    rcases List.mem_append.mp hv with q | q
    · exact hc v q
    · rw [List.mem_replicate] at q
      rw [q.2]; rfl
theorem ctr_of {c : Nat} {as : List Value} {μ μ' : Me} {o : Ou} (hco : CodOk c) (has : ∀ v ∈ as, v.category = 1) (hlen : as.length ≤ mL c)
    (body : ∀ p e s m args below meth cd, BX D cA B0 b Ln xs c p s m args meth cd → WS D cA B0 b Ln xs c p l e s m args below meth cd (vx_MQ below (Qx D cA B0 b Ln xs o μ') (XX D cA B0 b Ln xs o μ') args s (mC c) (mS c) (AA B0)) (stx c as μ)) : Ctr D cA B0 b Ln xs l c as μ o μ' := by
  unfold Ctr
  by_cases hH : mH c = []
  · refine va_ofWf (cc := mB c) (maxL := mL c) (ret := mR c) (ws' := BIG) hco.2.1.1 (by simp [wsM, hH]) ?_
    intro p e s m args below meth cd s₁ B hml ht hp
    obtain ⟨rfl, hCX, hM⟩ := hp
    have hts := atoms_spec (ws := wsM c) B.pre
    refine entry_of has hlen rfl hM rfl (body p e s m _ below meth cd ⟨B.exec, B.bytes, B.returns, hml, ?_, fun w hw => hts w (List.mem_cons_of_mem _ hw), B.notSynchronized, ?_, fun h => (name_of_methodNamed B.named B.method).1.trans h, hCX⟩)
    · rw [← hco.2.2.1]; exact findClass_of_methodNamed B.named
    · rw [hH]
      exact List.eq_nil_iff_forall_not_mem.mpr ht
  · refine vx_ofWH (cc := mB c) (maxL := mL c) (ret := mR c) (hh := mH c) (ws' := BIG) (hco.2.1.2.resolve_left hH) (by simp [wsM, hH]) ?_
    intro p e s m args below meth cd s₁ B hml hp
    obtain ⟨rfl, hCX, hM⟩ := hp
    have hts := atoms_spec (ws := wsM c) B.pre
    refine entry_of has hlen rfl hM rfl (body p e s m _ below meth cd ⟨B.exec, B.bytes, B.returns, hml, ?_, fun w hw => hts w (List.mem_cons_of_mem _ hw), B.notSynchronized, ?_, fun h => (name_of_methodNamed B.named B.method).1.trans h, hCX⟩)
    · rw [← hco.2.2.1]; exact findClass_of_methodNamed B.named
    · exact vx_table (x := mY c) B (hts _ (by simp only [wsM, if_neg hH]; exact List.mem_cons_self))
end FIN
section EV
variable {D : va_G} {cA : Nat → ClassId} {B0 b Ln : Nat} {xs : Nat → Int32} {l : Launch}
theorem okStp {mm : Nat} {p : Program} {e : Env} {s : State} {m : MethodId} {args : Array Value} {below : List Frame} {meth : Method} {cd : Code} {Q : State → Prop} (hB : BX D cA B0 b Ln xs mm p s m args meth cd) {op : Op} {x x' : Sx} (hk : OpOk mm x.1 op) (h : stp mm op x = some x') (k : WS D cA B0 b Ln xs mm p l e s m args below meth cd Q x') : WS D cA B0 b Ln xs mm p l e s m args below meth cd Q x := by
  have key : ∀ {α : Type} {u v : Option α} {y : α}, orE u v = some y → u = some y ∨ v = some y := by
    intro α u v y h
    cases u with
    | none => exact Or.inr h
    | some z => exact Or.inl h
  unfold stp at h
  rcases key h with h | h
  · exact okK hB hk h k
  rcases key h with h | h
  · exact okL hB hk h k
  rcases key h with h | h
  · exact okN hB hk h k
  rcases key h with h | h
  · exact okB hB hk h k
  rcases key h with h | h
  · exact okH hB hk h k
  · exact okM hB hk h k
theorem cal_as {m : Nat} {op : Op} {x : Sx} {c : Nat} {as st' : List Value} (h : cal m op x = some (c, as, st')) : (∀ v ∈ as, v.category = 1) ∧ as.length ≤ mL c ∧ c = op.2.2.2.1 := by
  obtain ⟨pc, L, st, k, s, fr, n, kd, r⟩ := x
  have key : ∀ n' : Nat, calG m op.2.2.2.1 k s n' st = some (c, as, st') → (∀ v ∈ as, v.category = 1) ∧ as.length ≤ mL c ∧ c = op.2.2.2.1 := by
    intro n' h
    obtain ⟨⟨c1, c2, c3, -⟩, hr⟩ := calG_spec h
    cases hr
    exact ⟨fun v hv => c3 v (List.mem_of_mem_take (List.mem_reverse.mp hv)), by simp; omega, rfl⟩
  simp only [cal] at h
  split at h
  · exact key _ h
  · split at h
    · cases h
    · split at h
      · exact key _ h
      · cases h
  · split at h
    · split at h
      · split at h
        · exact key _ h
        · cases h
      · cases h
    · cases h
  · cases h
theorem cod_of {mm pc : Nat} {op : Op} {x : Sx} {c : Nat} {as st' : List Value} (hk : OpOk mm pc op) (h : cal mm op x = some (c, as, st')) : CodOk c := by
  have hc := (cal_as h).2.2
  obtain ⟨ins, len, a, b', n⟩ := op
  obtain ⟨-, -, ho⟩ := hk
  dsimp only at hc
  subst hc
  cases ins with
  | invokevirtual i => exact ho.1.1
  | invokestatic i => exact ho.2.1
  | invokespecial i =>
    by_cases h5 : a = 5
    · subst h5; exact absurd h (by simp [cal])
    · exact (ho.2 h5).2.1
  | _ => exact absurd h (by simp [cal])
/-- THE EVALUATOR IS THE MACHINE -/
theorem ev_ok (hP : PG) (hl : l.stackTraces = false) : ∀ (n mm : Nat) (x : Sx) (o : Ou) (μ' : Me), ev n mm x = some (o, μ') → ∀ (p : Program) (e : Env) (s : State) (m : MethodId) (args : Array Value) (below : List Frame) (meth : Method) (cd : Code) (Q : State → Prop), BX D cA B0 b Ln xs mm p s m args meth cd →
    (∀ (op : Op) (y : Sx), OpOk mm y.1 op → fin mm op y = some (o, μ') → WS D cA B0 b Ln xs mm p l e s m args below meth cd Q y) → WS D cA B0 b Ln xs mm p l e s m args below meth cd Q x := by
  intro n
  induction n with
  | zero => intro mm x o μ' h; cases h
  | succ n ih =>
    intro mm x o μ' h p e s m args below meth cd Q hB hQ
    simp only [ev] at h
    split at h
    · cases h
    · next op hlk =>
      have hk := hP _ _ _ hlk
      split at h
      · next x' hs => exact okStp hB hk hs (ih mm x' o μ' h p e s m args below meth cd Q hB hQ)
      · next hs =>
        split at h
        · next c as st' hc =>
          split at h
          · next o1 μ1 he =>
            split at h
            · next x' hb =>
              obtain ⟨ha1, ha2, -⟩ := cal_as hc
              exact okCal hP hB hk hc (ctr_of (cod_of hk hc) ha1 ha2 (fun p e s m args below meth cd hB' => ih c _ o1 μ1 he p e s m args below meth cd _ hB' (fun op y hk' hf => okFin hl hB' hk' hf))) hb (ih mm x' o μ' h p e s m args below meth cd Q hB hQ)
            · cases h
          · cases h
        · next hc => exact hQ op x hk h
/-- some steps at the top, calls whole -/
def step1 (n m : Nat) (x : Sx) : Option Sx := match lk m x.1 with
  | none => none
  | some op => match stp m op x with
    | some x' => some x'
    | none => match cal m op x with
      | some (c, as, st') => match ev n c (stx c as x.2.2.2.2.2) with
        | some (o, μ') => bak m x c st' o μ'
        | none => none
      | none => none
def runTo (n m stop : Nat) : Nat → Sx → Option Sx
  | 0, _ => none
  | k + 1, x => if x.1 = stop then some x else match step1 n m x with
    | some x' => runTo n m stop k x'
    | none => none
theorem step1_ok (hP : PG) (hl : l.stackTraces = false) {n mm : Nat} {x x' : Sx} (h : step1 n mm x = some x') {p : Program} {e : Env} {s : State} {m : MethodId} {args : Array Value} {below : List Frame} {meth : Method} {cd : Code} {Q : State → Prop} (hB : BX D cA B0 b Ln xs mm p s m args meth cd)
    (k : WS D cA B0 b Ln xs mm p l e s m args below meth cd Q x') : WS D cA B0 b Ln xs mm p l e s m args below meth cd Q x := by
  unfold step1 at h
  split at h
  · cases h
  · next op hlk =>
    have hk := hP _ _ _ hlk
    split at h
    · next x1 hs => cases h; exact okStp hB hk hs k
    · next hs =>
      split at h
      · next c as st' hc =>
        split at h
        · next o1 μ1 he =>
          obtain ⟨ha1, ha2, -⟩ := cal_as hc
          exact okCal hP hB hk hc (ctr_of (cod_of hk hc) ha1 ha2 (fun p e s m args below meth cd hB' => ev_ok hP hl n c _ o1 μ1 he p e s m args below meth cd _ hB' (fun op y hk' hf => okFin hl hB' hk' hf))) h k
        · cases h
      · cases h
theorem runTo_ok (hP : PG) (hl : l.stackTraces = false) {n mm stop : Nat} : ∀ {k : Nat} {x x' : Sx}, runTo n mm stop k x = some x' → ∀ (p : Program) (e : Env) (s : State) (m : MethodId) (args : Array Value) (below : List Frame) (meth : Method) (cd : Code) (Q : State → Prop), BX D cA B0 b Ln xs mm p s m args meth cd →
    WS D cA B0 b Ln xs mm p l e s m args below meth cd Q x' → WS D cA B0 b Ln xs mm p l e s m args below meth cd Q x
  | 0, x, x', h => by cases h
  | k + 1, x, x', h => by
    intro p e s m args below meth cd Q hB kk
    simp only [runTo] at h
    split at h
    · cases h; exact kk
    · split at h
      · next x1 hs => exact step1_ok hP hl hs hB (runTo_ok hP hl h p e s m args below meth cd Q hB kk)
      · cases h
end EV
