def PG : Prop := ∀ (mm pc : Nat) (op : Op), lk mm pc = some op → OpOk mm pc op
theorem stk_split {α : Type} {st : List α} {n : Nat} {v : α} (h : st[n]? = some v) : st = st.take n ++ v :: st.drop (n + 1) := by
  obtain ⟨h1, h2⟩ := List.getElem?_eq_some_iff.mp h
  conv => lhs; rw [← List.take_append_drop n st]
  rw [List.drop_eq_getElem_cons h1, h2]
theorem take_rev {α : Type} {st : List α} {n : Nat} {v : α} (h : st[n]? = some v) : (st.take (n + 1)).reverse = v :: (st.take n).reverse := by
  rw [List.take_succ, h]
  simp
theorem calG_spec {m c k s n : Nat} {st : List Value} {r : Nat × List Value × List Value} (h : calG m c k s n st = some r) : (n ≤ st.length ∧ n ≤ mL c ∧ (∀ v ∈ st, v.category = 1) ∧ (st.drop n).length ≤ 8 ∧ mF c + 1 ≤ mF m ∧ 8 + (mL c + 11) + mW c ≤ mW m ∧ k + mC c ≤ mC m ∧ s + mS c ≤ mS m ∧ isScr c = false) ∧ r = (c, (st.take n).reverse, st.drop n) := by
  unfold calG at h
  split at h
  · next hc => cases h; exact ⟨hc, rfl⟩
  · cases h
theorem cat_sum : ∀ (st : List Value), (∀ v ∈ st, v.category = 1) → (st.map fun v => v.category).sum = st.length
  | [], _ => rfl
  | v :: t, h => by
    simp only [List.map_cons, List.sum_cons, List.length_cons]
    rw [h v List.mem_cons_self, cat_sum t (fun w hw => h w (List.mem_cons_of_mem _ hw))]
    omega
theorem rv_sum {b B0 : Nat} {st : List Value} {k : Nat} (h : ∀ v ∈ st, v.category = 1) (hl : (st.drop k).length ≤ 8) : (((st.drop k).map (rv b B0)).map fun v => v.category).sum ≤ 8 := by
  rw [cat_sum]
  · simpa using hl
  · intro v hv
    obtain ⟨w, hw, rfl⟩ := List.mem_map.mp hv
    rw [rv_cat]
    exact h w (List.mem_of_mem_drop hw)
section CALL
variable {D : va_G} {cA : Nat → ClassId} {B0 b Ln : Nat} {xs : Nat → Int32} {mm : Nat} {p : Program} {l : Launch} {e : Env} {s : State} {m : MethodId} {args : Array Value} {below : List Frame} {meth : Method} {cd : Code} {Q : State → Prop}
theorem wsM_good {c : Nat} (h : CodOk c) : GoodIn BIG (wsM c) := by
  intro w hw
  rcases List.mem_cons.mp hw with e | e
  · rw [e]
    refine big_good _ ?_
    have h1 := h.1
    split <;> simp_all
  · exact big_good w e
theorem cb_of (hts : ∀ w ∈ BIG, w.before args s = true) {c n i : Nat} (hc : CodOk c) (hn : (parseMethodDescriptor (mY c).desc).map (fun d => d.parameters.length) = some n) (hH : mH c = []) (hl : Cond.methodLink (cN (mO mm)) i (mY c) ∈ BIG) (hf : mF c + 1 ≤ mF mm) (hw : 8 + (mL c + 11) + mW c ≤ mW mm) :
    CallB (rmM mm) s args (cN (mO mm)) i (mY c) (mB c) (mL c) (mR c) (wsM c) (rmM c) (mC c) (mS c) n :=
  callB_of (Ts := BIG) (ws' := BIG) n hts (wsM_good hc) (by simp [wsM, hH]) rfl rfl (by rw [hc.2.2.1]; exact hts _ hc.2.2.2.1) (hts _ hl) ⟨hc.2.2.2.2.1, hc.2.2.2.2.2, hn⟩ ⟨hf, hw⟩
/-- behind a call that came back, or threw -/
theorem okBak (hP : PG) (hB : BX D cA B0 b Ln xs mm p s m args meth cd) {pc : Nat} {L : Lc} {st st' : List Value} {kc sc c : Nat} {μ μ' : Me} {o : Ou} {x' : Sx} {H : Heap} {locs : List Loc} {ls : Array Slot} {a : Array Value} {st0 : List Value} (hL : LVr b B0 mm ls L) (hS : va_S (AA B0) s.heap H locs)
    (hb : bak mm (pc, L, st, kc, sc, μ) c st' o μ' = some x') (hrow : ∀ q ∈ mH mm, q.2.2.2 ≠ 0 ∧ exOf q.2.2.2 < 6 ∧ Cond.classLink (cN (mO mm)) q.2.2.2 (exN (exOf q.2.2.2)) ∈ BIG)
    (hr : vx_Run p l e (rmM mm) s m args below meth cd H locs kc sc (mC c) (mS c) (F0 m pc ls st0) (st'.map (rv b B0)) (Qx D cA B0 b Ln xs o μ' a) (XX D cA B0 b Ln xs o μ') (AA B0))
    (k : WS D cA B0 b Ln xs mm p l e s m args below meth cd Q x') : W p l e (rmM mm) s m args below meth cd H locs kc sc Q (F0 m pc ls st0) := by
  refine k_run hr hS (fun v ho H1 locs1 hM1 hS1 => ?_) (fun n ho hn H1 locs1 q ce hM1 hS1 hce hcv hcl => ?_)
  · subst ho
    cases v with
    | none =>
      simp only [bak, nx, Option.some.injEq] at hb
      subst hb
      exact k H1 locs1 ls hL hM1 hS1
    | some v =>
      simp only [bak, nx, Option.some.injEq] at hb
      subst hb
      exact k H1 locs1 ls hL hM1 hS1
  · subst ho
    have hCX := hB.2.2.2.2.2.2.2.2.2
    obtain ⟨hx, hbb, -, -, hown, hts, -, htab, -⟩ := hB
    simp only [bak] at hb
    split at hb
    · next hp hh =>
      obtain ⟨pre, z, suf, h1, h2, h3, h4, h5, h6⟩ := hnd_spec hh
      have hz := hrow z (by rw [h1]; exact List.mem_append_right _ List.mem_cons_self)
      rw [h5] at hz
      have go : ∀ (kk : W p l e (rmM mm) s m args below meth cd H1 locs1 (kc + mC c) (sc + mS c) Q (F0 m hp ls [.ref q])), vx_W p l e (rmM mm) s m args below meth cd H1 locs1 (kc + mC c) (sc + mS c) Q (F0 m pc ls (st'.map (rv b B0))) q := by
        intro kk
        refine vx_catch (own := cN (mO mm)) (name := exN n) (E := exN n) hown (tableOf pre) ⟨z.1, z.2.1, z.2.2.1, z.2.2.2⟩ (tableOf suf) ?_ ?_ ((cov_iff z pc).mpr ⟨h3, h4⟩) hz.1 (hts _ hz.2.2) (va_Nw.use rfl (hCX.2.1 _ (casts n hn))) hce hcv hcl (by rw [← h2] at kk; exact kk)
        · rw [htab, h1]; simp [tableOf]
        · intro z' hz'
          obtain ⟨y, hy, rfl⟩ := List.mem_map.mp hz'
          by_cases hc : y.1 ≤ pc ∧ pc < y.2.1
          · have hy' := hrow y (by rw [h1]; exact List.mem_append_left _ hy)
            refine Or.inr ⟨hy'.1, exN (exOf y.2.2.2), hts _ hy'.2.2, hCX.2.2.2.2.2.2.2.2.1 n (exOf y.2.2.2) hn hy'.2.1 (fun q => h6 y hy ⟨hc.1, hc.2, q.symm⟩)⟩
          · left
            cases hv : covers (⟨y.1, y.2.1, y.2.2.1, y.2.2.2⟩ : ExceptionTableEntry) pc
            · rfl
            · exact absurd ((cov_iff y pc).mp hv) hc
      split at hb
      · next i tl hlk =>
        split at hb
        · next hc =>
          simp only [nx, Option.some.injEq] at hb
          subst hb
          obtain ⟨hd, hl, -⟩ := hP _ _ _ hlk
          have hl : tl.1 = 1 := by simpa [stdL] using hl
          rw [hl] at hd
          exact go (lv_astore_n hx hbb hd rfl hL.has hc.1 rfl (fun ls' h' => k H1 locs1 ls' (hL.drop hc.2 h') hM1 hS1))
        · cases hb
      · next i tl hlk =>
        split at hb
        · next hc =>
          simp only [nx, Option.some.injEq] at hb
          subst hb
          obtain ⟨hd, hl, -⟩ := hP _ _ _ hlk
          have hl : tl.1 = 2 := by simpa [stdL] using hl
          rw [hl] at hd
          exact go (lv_astore hx hbb hd hL.has hc.1 rfl (fun ls' h' => k H1 locs1 ls' (hL.drop hc.2 h') hM1 hS1))
        · cases hb
      · cases hb
    · cases hb
theorem no_throw {pc : Nat} {L : Lc} {st st' : List Value} {kc sc c : Nat} {μ μ' : Me} {o : Ou} {x' : Sx} (hH : mH mm = []) (hb : bak mm (pc, L, st, kc, sc, μ) c st' o μ' = some x') : ∃ v, o = .inl v := by
  rcases o with v | E
  · exact ⟨v, rfl⟩
  · simp only [bak, hH, hnd] at hb
    cases hb
set_option maxHeartbeats 1000000 in
theorem okCal (hP : PG) (hB : BX D cA B0 b Ln xs mm p s m args meth cd) {op : Op} {x x' : Sx} {c : Nat} {as st' : List Value} {o : Ou} {μ' : Me} (hk : OpOk mm x.1 op) (h : cal mm op x = some (c, as, st')) (hC : Ctr D cA B0 b Ln xs l c as x.2.2.2.2.2 o μ') (hb : bak mm x c st' o μ' = some x') (k : WS D cA B0 b Ln xs mm p l e s m args below meth cd Q x') : WS D cA B0 b Ln xs mm p l e s m args below meth cd Q x := by
  have hK := hK_of hB
  have hB' := hB
  have hCX := hB.2.2.2.2.2.2.2.2.2
  obtain ⟨hx, hbb, -, hml, hown, hts, -⟩ := hB'
  obtain ⟨pc, L, st, kc, sc, fr, nn, kd, σ, lo, db⟩ := x
  obtain ⟨ins, len, a, b', n⟩ := op
  obtain ⟨hd, hl, ho⟩ := hk
  intro H locs ls hL hM hS
  have hsz : ls.size = mL mm := hL.1
  cases ins with
  | invokevirtual i =>
    simp only [cal] at h
    split at h
    · next r hr =>
      split at h
      · next ci nf fx hkd =>
        split at h
        · next hci =>
          obtain ⟨⟨c1, c2, c3, c4, c5, c6, c7, c8, c9⟩, hr0⟩ := calG_spec h
          cases hr0
          · obtain ⟨rfl, hci10⟩ := hci
            obtain ⟨⟨hco, hpn, hl1, hin, hsel, hH, hrow⟩, -⟩ := ho
            have hl : len = 3 := by simpa [stdL] using hl
            subst hl
            obtain ⟨hlo, had, hs, hnf⟩ := hM.obj (μ := (fr, nn, kd, σ, lo, db)) hkd
            have hg := wl_get (b := b) (B0 := B0) (cA := cA) hlo
            rw [cel_obj (μ := (fr, nn, kd, σ, lo, db)) hkd] at hg
            have hrec := va_recv hK hM.1 (vwC_get _ hci10) hg
            rw [take_rev hr] at hC
            have hcw : CallW (rmM mm) s args (cN (mO mm)) (cN (mO c)) i (mY c) (mB c) (mL c) (mR c) (wsM c) (rmM c) (mC c) (mS c) n := ⟨cb_of hts hco hpn hH hl1 c5 c6, hts _ hin, hts _ hsel⟩
            have hrun := vx_runV (H := H) (locs := locs) (cells := kc) (slots := sc) (below := below) (meth := meth) (e := e) (b := adr b B0 r) (As := (st.take n).reverse.map (rv b B0)) (rest := (st.drop (n + 1)).map (rv b B0)) (g := F0 m pc ls (st.map (rv b B0))) ⟨hx, hbb, hml, hown, hts⟩ hC hcw
              ⟨Px_blind, by rw [had]; exact hrec, fun U hU hW => Px_at hB hS (as := .ref r :: (st.take n).reverse) hM U hU hW⟩ rfl (by simp; omega) hsz (by
                show st.map (rv b B0) = _
                conv => lhs; rw [stk_split hr]
                simp [rv]) (lv_room (rv_sum c3 c4)) hd ⟨c7, c8⟩
            exact okBak hP hB hL hS hb hrow hrun k
        · cases h
      · cases h
    · cases h
  | invokestatic i =>
    simp only [cal] at h
    obtain ⟨⟨c1, c2, c3, c4, c5, c6, c7, c8, c9⟩, hr0⟩ := calG_spec h
    cases hr0
    · skip
      have hl : len = 3 := by simpa [stdL] using hl
      subst hl
      have hstk : (F0 m pc ls (st.map (rv b B0))).stack = ((st.take n).reverse.map (rv b B0)).reverse ++ (st.drop n).map (rv b B0) := by
        show st.map (rv b B0) = _
        conv => lhs; rw [← List.take_append_drop n st]
        simp
      obtain ⟨ha, ho⟩ := ho
      rcases ha with rfl | rfl
      · obtain ⟨hco, hpn, hl1, hst, hHm⟩ := ho
        by_cases hH : mH c = []
        · have hrun := vx_runS (H := H) (locs := locs) (cells := kc) (slots := sc) (below := below) (meth := meth) (e := e) (As := (st.take n).reverse.map (rv b B0)) (rest := (st.drop n).map (rv b B0)) (g := F0 m pc ls (st.map (rv b B0))) ⟨hx, hbb, hml, hown, hts⟩ hC ⟨cb_of hts hco hpn hH hl1 c5 c6, hts _ hst⟩
            ⟨Px_blind, fun U hU hW => Px_at hB hS (as := (st.take n).reverse) hM U hU hW⟩ rfl (by simp; omega) hsz hstk (lv_room (rv_sum c3 c4)) hd ⟨c7, c8⟩
          exact okBak hP hB hL hS hb (fun q hq => by rw [hHm] at hq; cases hq) hrun k
        · have hcw : vx_CSW (rmM mm) s args (cN (mO mm)) i (mY c) (mB c) (mL c) (mR c) (mH c) (wsM c) (rmM c) (mC c) (mS c) n := by
            have h1 := hco.1
            rw [if_neg hH] at h1
            refine ⟨⟨rfl, rfl, c5, c6, pay_in hts (wsM_good hco), by simp [wsM, hH]⟩, hts _ h1, by rw [hco.2.2.1]; exact hts _ hco.2.2.2.1, hco.2.2.2.2, fun sig h => ?_, hts _ hl1, hts _ hst⟩
            rw [h] at hpn
            exact (Option.some.inj hpn).symm
          have hrun := vx_runSX (H := H) (locs := locs) (cells := kc) (slots := sc) (below := below) (meth := meth) (e := e) (As := (st.take n).reverse.map (rv b B0)) (rest := (st.drop n).map (rv b B0)) (g := F0 m pc ls (st.map (rv b B0))) (nL := mL mm) (Ts := BIG) ⟨hx, hbb, hml, hown, hts⟩ hC hcw
            ⟨Px_blind, fun U hU hW => Px_at hB hS (as := (st.take n).reverse) hM U hU hW⟩ rfl (by simp; omega) hsz hstk (lv_room (rv_sum c3 c4)) hd ⟨c7, c8⟩
          exact okBak hP hB hL hS hb (fun q hq => by rw [hHm] at hq; cases hq) hrun k
      · obtain ⟨hco, hpn, hl1, hst, hH, hHm⟩ := ho
        obtain ⟨v, rfl⟩ := no_throw hHm hb
        have hcn : va_CN (rmM mm) s args (cN (mO mm)) i (mY c) RX8 (mB c) (mL c) (mR c) (wsM c) (rmM c) (mC c) (mS c) n :=
          va_cnB (Ts := BIG) (ws' := BIG) n hts (wsM_good hco) (by simp [wsM, hH]) rfl rfl (hCX.2.1 _ hl1) (by rw [hco.2.2.1]; exact hts _ hco.2.2.2.1) ⟨hco.2.2.2.2.1, hco.2.2.2.2.2, hpn⟩ ⟨c5, c6⟩
        have hrun := va_runSN (H := H) (locs := locs) (cells := kc) (slots := sc) (below := below) (meth := meth) (e := e) (As := (st.take n).reverse.map (rv b B0)) (rest := (st.drop n).map (rv b B0)) (g := F0 m pc ls (st.map (rv b B0))) (nL := mL mm) (Ts := BIG) ⟨hx, hbb, hml, hown, hts⟩ (met_of hC) ⟨hcn, hts _ hst, trivial⟩
          ⟨Px_blind, fun U hU hW => Px_at hB hS (as := (st.take n).reverse) hM U hU hW⟩ rfl (by simp; omega) hsz hstk (lv_room (rv_sum c3 c4)) hd ⟨c7, c8⟩
        exact okBak hP hB hL hS hb (fun q hq => by rw [hHm] at hq; cases hq) (run_of hrun) k
  | invokespecial i =>
    simp only [cal] at h
    split at h
    · cases h
    next hn5 =>
    have ho := ho.2 hn5
    split at h
    · next r hr =>
      obtain ⟨⟨c1, c2, c3, c4, c5, c6, c7, c8, c9⟩, hr0⟩ := calG_spec h
      cases hr0
      · skip
        have hl : len = 3 := by simpa [stdL] using hl
        subst hl
        have hstk : (F0 m pc ls (st.map (rv b B0))).stack = ((st.take n).reverse.map (rv b B0)).reverse ++ .ref (adr b B0 r) :: (st.drop (n + 1)).map (rv b B0) := by
          show st.map (rv b B0) = _
          conv => lhs; rw [stk_split hr]
          simp [rv]
        rw [take_rev hr] at hC
        obtain ⟨ha, ho⟩ := ho
        rcases ha with rfl | rfl
        · obtain ⟨hco, hpn, hl1, hin, hnm, hrt, hH, hHm⟩ := ho
          obtain ⟨v, rfl⟩ := no_throw hHm hb
          have hcb := cb_of (mm := mm) hts hco hpn hH hl1 c5 c6
          rw [hrt] at hcb
          have hrun := va_runI (H := H) (locs := locs) (cells := kc) (slots := sc) (below := below) (meth := meth) (e := e) (b := adr b B0 r) (As := (st.take n).reverse.map (rv b B0)) (rest := (st.drop (n + 1)).map (rv b B0)) (g := F0 m pc ls (st.map (rv b B0))) (nL := mL mm) (Ts := BIG) ⟨hx, hbb, hml, hown, hts⟩ (met_of hC) ⟨hcb, hnm, hts _ hin⟩
            ⟨Px_blind, fun U hU hW => Px_at hB hS (as := .ref r :: (st.take n).reverse) hM U hU hW⟩ rfl (by simp; omega) hsz hstk (lv_room (rv_sum c3 c4)) hd ⟨c7, c8⟩
          exact okBak hP hB hL hS hb (fun q hq => by rw [hHm] at hq; cases hq) (run_of hrun) k
        · obtain ⟨hco, hpn, hl1, hin, hnm, hrt, hH, hHm⟩ := ho
          obtain ⟨v, rfl⟩ := no_throw hHm hb
          have hcn : va_CN (rmM mm) s args (cN (mO mm)) i (mY c) RX8 (mB c) (mL c) (mR c) (wsM c) (rmM c) (mC c) (mS c) n :=
            va_cnB (Ts := BIG) (ws' := BIG) n hts (wsM_good hco) (by simp [wsM, hH]) rfl rfl (hCX.2.1 _ hl1) (by rw [hco.2.2.1]; exact hts _ hco.2.2.2.1) ⟨hco.2.2.2.2.1, hco.2.2.2.2.2, hpn⟩ ⟨c5, c6⟩
          rw [hrt] at hcn
          have hrun := va_runIN (H := H) (locs := locs) (cells := kc) (slots := sc) (below := below) (meth := meth) (e := e) (b := adr b B0 r) (As := (st.take n).reverse.map (rv b B0)) (rest := (st.drop (n + 1)).map (rv b B0)) (g := F0 m pc ls (st.map (rv b B0))) (nL := mL mm) (Ts := BIG) ⟨hx, hbb, hml, hown, hts⟩ (met_of hC) ⟨hcn, hnm, hts _ hin⟩
            ⟨Px_blind, fun U hU hW => Px_at hB hS (as := .ref r :: (st.take n).reverse) hM U hU hW⟩ rfl (by simp; omega) hsz hstk (lv_room (rv_sum c3 c4)) hd ⟨c7, c8⟩
          exact okBak hP hB hL hS hb (fun q hq => by rw [hHm] at hq; cases hq) (run_of hrun) k
    · cases h
  | _ => exact absurd h (by simp [cal])
end CALL
