theorem ar_st {H1 : Heap} {a : Nat} {cI : ClassId} {N k : Nat} {g g' : Nat → Value} {x : Value} (e : H1[a]? = some ((arrV cI N g).setSlot k x)) (h : ∀ j, updV g k x j = g' j) : H1[a]? = some (arrV cI N g') := by
  rw [e, arrV_store]
  rw [show updV g k x = g' from funext h]
section OK
variable {D : va_G} {cA : Nat → ClassId} {B0 b Ln : Nat} {xs : Nat → Int32} {mm : Nat} {p : Program} {l : Launch} {e : Env} {s : State} {m : MethodId} {args : Array Value} {below : List Frame} {meth : Method} {c : Code} {Q : State → Prop}
variable {H : Heap} {locs : List Loc} {pc : Nat} {ls : Array Slot} {rest : List Value} {kc sc : Nat}
theorem scr_ad (hB : BX D cA B0 b Ln xs mm p s m args meth c) : va_X b Ln xs s s.heap ∧ b < s.heap.size ∧ ¬ AA B0 b := by
  obtain ⟨-, -, -, -, -, -, -, -, -, -, -, -, -, -, h6, h7, h8, -⟩ := hB
  exact ⟨h6, Nat.lt_of_lt_of_le h7 h8, fun q => absurd h7 (Nat.not_lt.mpr q)⟩
theorem k_iald (hB : BX D cA B0 b Ln xs mm p s m args meth c) {μ : Me} (hM : RelM D cA B0 b Ln xs μ H) (hS : va_S (AA B0) s.heap H locs) {o ti len : Nat} {i : Int32} (hk : μ.2.2.1 o = .inr (ti, len, none)) (ht : ti = 0 ∨ (ti = 8 ∧ o = SCR)) (hin : ixIn i len) (hd : decode (mB mm) pc = .ok (.iaload, 1))
    (kk : W p l e (rmM mm) s m args below meth c H locs kc sc Q (F0 m (pc + 1) ls (.int (μ.2.2.2.1 o i.toNatClampNeg) :: rest))) : W p l e (rmM mm) s m args below meth c H locs kc sc Q (F0 m pc ls (.int i :: .ref (adr b B0 o) :: rest)) := by
  have hK := hK_of hB
  have hX := scr_ad hB
  obtain ⟨hx, hb, -, -, hown, hts, -⟩ := hB
  rcases ht with rfl | ⟨rfl, rfl⟩
  · obtain ⟨hl, ha, hs⟩ := hM.arr hk (by decide)
    have hg := wl_get (b := b) (B0 := B0) (cA := cA) hl
    rw [cel_num hk] at hg
    rw [ha]
    exact va_iald hx hb hK hM.1 o 0 hg rfl hin hd kk
  · obtain ⟨-, -, -, -, -, h6, h7, -⟩ := hM
    rw [h6] at hk
    cases hk
    rw [h7] at kk
    exact va_sld hx hb hX.1 hX.2.1 hX.2.2 hS hin hd kk
theorem k_alen (hB : BX D cA B0 b Ln xs mm p s m args meth c) {μ : Me} (hM : RelM D cA B0 b Ln xs μ H) (hS : va_S (AA B0) s.heap H locs) {o ti len : Nat} (hk : μ.2.2.1 o = .inr (ti, len, none)) (ht : ti < 4 ∨ (ti = 8 ∧ o = SCR)) (hd : decode (mB mm) pc = .ok (.arraylength, 1))
    (kk : W p l e (rmM mm) s m args below meth c H locs kc sc Q (F0 m (pc + 1) ls (.int (Int32.ofNat len) :: rest))) : W p l e (rmM mm) s m args below meth c H locs kc sc Q (F0 m pc ls (.ref (adr b B0 o) :: rest)) := by
  have hK := hK_of hB
  have hX := scr_ad hB
  obtain ⟨hx, hb, -, -, hown, hts, -⟩ := hB
  rcases ht with h4 | ⟨rfl, rfl⟩
  · obtain ⟨hl, ha, hs⟩ := hM.arr hk (by omega)
    have hg := wl_get (b := b) (B0 := B0) (cA := cA) hl
    rw [cel_num hk] at hg
    rw [ha]
    have hty : (tysL cA)[ti]? = some (cA ti, tyT ti) := by
      rcases (show ti = 0 ∨ ti = 1 ∨ ti = 2 ∨ ti = 3 by omega) with rfl | rfl | rfl | rfl <;> rfl
    exact va_alen hx hb hK hM.1 o ti hg hty rfl hd kk
  · obtain ⟨-, -, -, -, -, h6, h7, -⟩ := hM
    rw [h6] at hk
    cases hk
    exact va_slen hx hb hX.1 hX.2.1 hX.2.2 hS hd kk
theorem k_cald (hB : BX D cA B0 b Ln xs mm p s m args meth c) {μ : Me} (hM : RelM D cA B0 b Ln xs μ H) {o len : Nat} {i : Int32} (hk : μ.2.2.1 o = .inr (1, len, none)) (hin : ixIn i len) (hd : decode (mB mm) pc = .ok (.caload, 1))
    (kk : W p l e (rmM mm) s m args below meth c H locs kc sc Q (F0 m (pc + 1) ls (.int (μ.2.2.2.1 o i.toNatClampNeg) :: rest))) : W p l e (rmM mm) s m args below meth c H locs kc sc Q (F0 m pc ls (.int i :: .ref (adr b B0 o) :: rest)) := by
  have hK := hK_of hB
  obtain ⟨hx, hb, -, -, hown, hts, -⟩ := hB
  obtain ⟨hl, ha, hs⟩ := hM.arr hk (by decide)
  have hg := wl_get (b := b) (B0 := B0) (cA := cA) hl
  rw [cel_num hk] at hg
  rw [ha]
  exact va_cald hx hb hK hM.1 o 1 hg rfl hin hd kk
theorem k_lald (hB : BX D cA B0 b Ln xs mm p s m args meth c) {μ : Me} (hM : RelM D cA B0 b Ln xs μ H) {o len : Nat} {i : Int32} (hk : μ.2.2.1 o = .inr (2, len, none)) (hin : ixIn i len) (hd : decode (mB mm) pc = .ok (.laload, 1))
    (kk : W p l e (rmM mm) s m args below meth c H locs kc sc Q (F0 m (pc + 1) ls (.long (μ.2.2.2.2.1 o i.toNatClampNeg) :: rest))) : W p l e (rmM mm) s m args below meth c H locs kc sc Q (F0 m pc ls (.int i :: .ref (adr b B0 o) :: rest)) := by
  have hK := hK_of hB
  obtain ⟨hx, hb, -, -, hown, hts, -⟩ := hB
  obtain ⟨hl, ha, hs⟩ := hM.arr hk (by decide)
  have hg := wl_get (b := b) (B0 := B0) (cA := cA) hl
  rw [cel_num hk] at hg
  rw [ha]
  exact va_lald hx hb hK hM.1 o 2 hg rfl hin hd kk
theorem k_dald (hB : BX D cA B0 b Ln xs mm p s m args meth c) {μ : Me} (hM : RelM D cA B0 b Ln xs μ H) {o len : Nat} {i : Int32} (hk : μ.2.2.1 o = .inr (3, len, none)) (hin : ixIn i len) (hd : decode (mB mm) pc = .ok (.daload, 1))
    (kk : W p l e (rmM mm) s m args below meth c H locs kc sc Q (F0 m (pc + 1) ls (.double (μ.2.2.2.2.2 o i.toNatClampNeg) :: rest))) : W p l e (rmM mm) s m args below meth c H locs kc sc Q (F0 m pc ls (.int i :: .ref (adr b B0 o) :: rest)) := by
  have hK := hK_of hB
  obtain ⟨hx, hb, -, -, hown, hts, -⟩ := hB
  obtain ⟨hl, ha, hs⟩ := hM.arr hk (by decide)
  have hg := wl_get (b := b) (B0 := B0) (cA := cA) hl
  rw [cel_num hk] at hg
  rw [ha]
  exact va_dald hx hb hK hM.1 o 3 hg rfl hin hd kk
theorem tyR {cA : Nat → ClassId} {ti : Nat} (h4 : 4 ≤ ti) (h8 : ti < 8) : ∃ C, (tysL cA)[ti]? = some (cA ti, .object C) ∧ C = cN (elT ti) ∧ tyT ti = .object C ∧ C ∈ [RX3, RX2, RX1, RX5] := by
  rcases (show ti = 4 ∨ ti = 5 ∨ ti = 6 ∨ ti = 7 by omega) with rfl | rfl | rfl | rfl
  · exact ⟨RX3, rfl, rfl, rfl, List.mem_cons_self⟩
  · exact ⟨RX2, rfl, rfl, rfl, List.mem_cons_of_mem _ List.mem_cons_self⟩
  · exact ⟨RX1, rfl, rfl, rfl, List.mem_cons_of_mem _ (List.mem_cons_of_mem _ List.mem_cons_self)⟩
  · exact ⟨RX5, rfl, rfl, rfl, List.mem_cons_of_mem _ (List.mem_cons_of_mem _ (List.mem_cons_of_mem _ List.mem_cons_self))⟩
theorem k_aald (hB : BX D cA B0 b Ln xs mm p s m args meth c) {μ : Me} (hM : RelM D cA B0 b Ln xs μ H) {o ti len r : Nat} {f : Nat → Option Nat} {i : Int32} (hk : μ.2.2.1 o = .inr (ti, len, some f)) (h4 : 4 ≤ ti) (h8 : ti < 8) (hin : ixIn i len) (hr : f i.toNatClampNeg = some r) (hd : decode (mB mm) pc = .ok (.aaload, 1))
    (kk : W p l e (rmM mm) s m args below meth c H locs kc sc Q (F0 m (pc + 1) ls (.ref (adr b B0 r) :: rest))) : W p l e (rmM mm) s m args below meth c H locs kc sc Q (F0 m pc ls (.int i :: .ref (adr b B0 o) :: rest)) := by
  have hK := hK_of hB
  obtain ⟨hx, hb, -, -, hown, hts, -⟩ := hB
  obtain ⟨hl, ha, hs⟩ := hM.arr hk h8
  have hg := wl_get (b := b) (B0 := B0) (cA := cA) hl
  rw [cel_ref hk] at hg
  rw [ha]
  obtain ⟨C, hC, -⟩ := tyR (cA := cA) h4 h8
  refine va_aldq hx hb hK hM.1 o ti hg hC hin hd ?_
  rw [hr]
  exact kk
theorem k_iast (hB : BX D cA B0 b Ln xs mm p s m args meth c) {fr : Bool} {n : Nat} {kd : Nat → Kd} {σ : Nat → Nat → Int32} {lo : Nat → Nat → Int64} {db : Nat → Nat → UInt64} (hM : RelM D cA B0 b Ln xs (fr, n, kd, σ, lo, db) H) (hS : va_S (AA B0) s.heap H locs) {o len : Nat} {i v : Int32} (hk : kd o = .inr (0, len, none)) (hin : ixIn i len) (hd : decode (mB mm) pc = .ok (.iastore, 1))
    (kk : ∀ (H1 : Heap) (locs1 : List Loc), RelM D cA B0 b Ln xs (fr, n, kd, u2 σ o i.toNatClampNeg v, lo, db) H1 → va_S (AA B0) s.heap H1 locs1 → W p l e (rmM mm) s m args below meth c H1 locs1 kc sc Q (F0 m (pc + 1) ls rest)) : W p l e (rmM mm) s m args below meth c H locs kc sc Q (F0 m pc ls (.int v :: .int i :: .ref (adr b B0 o) :: rest)) := by
  have hK := hK_of hB
  obtain ⟨hx, hb, -, -, hown, hts, -⟩ := hB
  obtain ⟨hl, ha, hs⟩ := hM.arr hk (by decide)
  have hg := wl_get (b := b) (B0 := B0) (cA := cA) hl
  rw [cel_num (μ := (fr, n, kd, σ, lo, db)) hk] at hg
  rw [ha]
  refine W.iast hx hb (hM.1 o _ hg) ((hK.2 0 _ rfl).1 len (fun j => .int (σ o j))) (fun q => by cases q) (by show ¬ (i < 0 ∨ (arrV _ _ _).slots.size ≤ _); rw [arrV_size]; exact hin) rfl rfl hd fun H1 e1 z oq => ?_
  refine kk H1 _ (hM.put (a := o) hl rfl rfl ?_ ?_ z oq (fun _ _ => rfl) hs ?_ ?_) (hS.put z oq (Nat.le_add_right _ _))
  · rw [cel_num (μ := (fr, n, kd, u2 σ o i.toNatClampNeg v, lo, db)) hk]
    show H1[B0 + o]? = some (arrV (cA 0) len (fun j => Value.int (u2 σ o i.toNatClampNeg v o j)))
    refine ar_st (g := fun j => .int (σ o j)) e1 (fun j => ?_)
    simp only [updV, u2_eq]
    split <;> rfl
  · intro q hq _; exact cel_same rfl (u2_ne hq) rfl rfl
  · intro j; exact congrFun (u2_ne (Ne.symm hs)) j
  · intro ci nf fx h
    have h : kd o = .inl (ci, nf, fx) := h
    rw [hk] at h; cases h
theorem k_cast (hB : BX D cA B0 b Ln xs mm p s m args meth c) {fr : Bool} {n : Nat} {kd : Nat → Kd} {σ : Nat → Nat → Int32} {lo : Nat → Nat → Int64} {db : Nat → Nat → UInt64} (hM : RelM D cA B0 b Ln xs (fr, n, kd, σ, lo, db) H) (hS : va_S (AA B0) s.heap H locs) {o len : Nat} {i v : Int32} (hk : kd o = .inr (1, len, none)) (hin : ixIn i len) (hd : decode (mB mm) pc = .ok (.castore, 1))
    (kk : ∀ (H1 : Heap) (locs1 : List Loc), RelM D cA B0 b Ln xs (fr, n, kd, u2 σ o i.toNatClampNeg (vp_nar .char v), lo, db) H1 → va_S (AA B0) s.heap H1 locs1 → W p l e (rmM mm) s m args below meth c H1 locs1 kc sc Q (F0 m (pc + 1) ls rest)) : W p l e (rmM mm) s m args below meth c H locs kc sc Q (F0 m pc ls (.int v :: .int i :: .ref (adr b B0 o) :: rest)) := by
  have hK := hK_of hB
  obtain ⟨hx, hb, -, -, hown, hts, -⟩ := hB
  obtain ⟨hl, ha, hs⟩ := hM.arr hk (by decide)
  have hg := wl_get (b := b) (B0 := B0) (cA := cA) hl
  rw [cel_num (μ := (fr, n, kd, σ, lo, db)) hk] at hg
  rw [ha]
  refine W.cast hx hb (hM.1 o _ hg) ((hK.2 1 _ rfl).1 len (fun j => .int (σ o j))) (fun q => by cases q) (by show ¬ (i < 0 ∨ (arrV _ _ _).slots.size ≤ _); rw [arrV_size]; exact hin) rfl rfl hd fun H1 e1 z oq => ?_
  refine kk H1 _ (hM.put (a := o) hl rfl rfl ?_ ?_ z oq (fun _ _ => rfl) hs ?_ ?_) (hS.put z oq (Nat.le_add_right _ _))
  · rw [cel_num (μ := (fr, n, kd, u2 σ o i.toNatClampNeg (vp_nar .char v), lo, db)) hk]
    show H1[B0 + o]? = some (arrV (cA 1) len (fun j => Value.int (u2 σ o i.toNatClampNeg (vp_nar .char v) o j)))
    refine ar_st (g := fun j => .int (σ o j)) e1 (fun j => ?_)
    simp only [updV, u2_eq]
    split <;> rfl
  · intro q hq _; exact cel_same rfl (u2_ne hq) rfl rfl
  · intro j; exact congrFun (u2_ne (Ne.symm hs)) j
  · intro ci nf fx h
    have h : kd o = .inl (ci, nf, fx) := h
    rw [hk] at h; cases h
theorem k_last (hB : BX D cA B0 b Ln xs mm p s m args meth c) {fr : Bool} {n : Nat} {kd : Nat → Kd} {σ : Nat → Nat → Int32} {lo : Nat → Nat → Int64} {db : Nat → Nat → UInt64} (hM : RelM D cA B0 b Ln xs (fr, n, kd, σ, lo, db) H) (hS : va_S (AA B0) s.heap H locs) {o len : Nat} {i : Int32} {v : Int64} (hk : kd o = .inr (2, len, none)) (hin : ixIn i len) (hd : decode (mB mm) pc = .ok (.lastore, 1))
    (kk : ∀ (H1 : Heap) (locs1 : List Loc), RelM D cA B0 b Ln xs (fr, n, kd, σ, u2 lo o i.toNatClampNeg v, db) H1 → va_S (AA B0) s.heap H1 locs1 → W p l e (rmM mm) s m args below meth c H1 locs1 kc sc Q (F0 m (pc + 1) ls rest)) : W p l e (rmM mm) s m args below meth c H locs kc sc Q (F0 m pc ls (.long v :: .int i :: .ref (adr b B0 o) :: rest)) := by
  have hK := hK_of hB
  obtain ⟨hx, hb, -, -, hown, hts, -⟩ := hB
  obtain ⟨hl, ha, hs⟩ := hM.arr hk (by decide)
  have hg := wl_get (b := b) (B0 := B0) (cA := cA) hl
  rw [cel_num (μ := (fr, n, kd, σ, lo, db)) hk] at hg
  rw [ha]
  refine W.last hx hb (hM.1 o _ hg) ((hK.2 2 _ rfl).1 len (fun j => .long (lo o j))) (fun q => by cases q) (by show ¬ (i < 0 ∨ (arrV _ _ _).slots.size ≤ _); rw [arrV_size]; exact hin) rfl rfl hd fun H1 e1 z oq => ?_
  refine kk H1 _ (hM.put (a := o) hl rfl rfl ?_ ?_ z oq (fun _ _ => rfl) hs (fun _ => rfl) ?_) (hS.put z oq (Nat.le_add_right _ _))
  · rw [cel_num (μ := (fr, n, kd, σ, u2 lo o i.toNatClampNeg v, db)) hk]
    show H1[B0 + o]? = some (arrV (cA 2) len (fun j => Value.long (u2 lo o i.toNatClampNeg v o j)))
    refine ar_st (g := fun j => .long (lo o j)) e1 (fun j => ?_)
    simp only [updV, u2_eq]
    split <;> rfl
  · intro q hq _; exact cel_same rfl rfl (u2_ne hq) rfl
  · intro ci nf fx h
    have h : kd o = .inl (ci, nf, fx) := h
    rw [hk] at h; cases h
theorem k_dast (hB : BX D cA B0 b Ln xs mm p s m args meth c) {fr : Bool} {n : Nat} {kd : Nat → Kd} {σ : Nat → Nat → Int32} {lo : Nat → Nat → Int64} {db : Nat → Nat → UInt64} (hM : RelM D cA B0 b Ln xs (fr, n, kd, σ, lo, db) H) (hS : va_S (AA B0) s.heap H locs) {o len : Nat} {i : Int32} {v : UInt64} (hk : kd o = .inr (3, len, none)) (hin : ixIn i len) (hd : decode (mB mm) pc = .ok (.dastore, 1))
    (kk : ∀ (H1 : Heap) (locs1 : List Loc), RelM D cA B0 b Ln xs (fr, n, kd, σ, lo, u2 db o i.toNatClampNeg v) H1 → va_S (AA B0) s.heap H1 locs1 → W p l e (rmM mm) s m args below meth c H1 locs1 kc sc Q (F0 m (pc + 1) ls rest)) : W p l e (rmM mm) s m args below meth c H locs kc sc Q (F0 m pc ls (.double v :: .int i :: .ref (adr b B0 o) :: rest)) := by
  have hK := hK_of hB
  obtain ⟨hx, hb, -, -, hown, hts, -⟩ := hB
  obtain ⟨hl, ha, hs⟩ := hM.arr hk (by decide)
  have hg := wl_get (b := b) (B0 := B0) (cA := cA) hl
  rw [cel_num (μ := (fr, n, kd, σ, lo, db)) hk] at hg
  rw [ha]
  refine W.dast hx hb (hM.1 o _ hg) ((hK.2 3 _ rfl).1 len (fun j => .double (db o j))) (fun q => by cases q) (by show ¬ (i < 0 ∨ (arrV _ _ _).slots.size ≤ _); rw [arrV_size]; exact hin) rfl rfl hd fun H1 e1 z oq => ?_
  refine kk H1 _ (hM.put (a := o) hl rfl rfl ?_ ?_ z oq (fun _ _ => rfl) hs (fun _ => rfl) ?_) (hS.put z oq (Nat.le_add_right _ _))
  · rw [cel_num (μ := (fr, n, kd, σ, lo, u2 db o i.toNatClampNeg v)) hk]
    show H1[B0 + o]? = some (arrV (cA 3) len (fun j => Value.double (u2 db o i.toNatClampNeg v o j)))
    refine ar_st (g := fun j => .double (db o j)) e1 (fun j => ?_)
    simp only [updV, u2_eq]
    split <;> rfl
  · intro q hq _; exact cel_same rfl rfl rfl (u2_ne hq)
  · intro ci nf fx h
    have h : kd o = .inl (ci, nf, fx) := h
    rw [hk] at h; cases h
theorem k_aast (hB : BX D cA B0 b Ln xs mm p s m args meth c) {fr : Bool} {n : Nat} {kd : Nat → Kd} {σ : Nat → Nat → Int32} {lo : Nat → Nat → Int64} {db : Nat → Nat → UInt64} (hM : RelM D cA B0 b Ln xs (fr, n, kd, σ, lo, db) H) (hS : va_S (AA B0) s.heap H locs) {o ti len v ci nf : Nat} {f : Nat → Option Nat} {fx : Nat → Option Value} {i : Int32} (hk : kd o = .inr (ti, len, some f)) (hkv : kd v = .inl (ci, nf, fx)) (h4 : 4 ≤ ti) (h8 : ti < 8) (hci : ci = elT ti) (hc : ci < 10) (hin : ixIn i len) (hd : decode (mB mm) pc = .ok (.aastore, 1)) {σ' : Nat → Nat → Int32} (hσ : ∀ q, q ≠ o → σ' q = σ q)
    (kk : ∀ (H1 : Heap) (locs1 : List Loc), RelM D cA B0 b Ln xs (fr, n, uK kd o (.inr (ti, len, some (fun j => if j = i.toNatClampNeg then some v else f j))), σ', lo, db) H1 → va_S (AA B0) s.heap H1 locs1 → W p l e (rmM mm) s m args below meth c H1 locs1 kc sc Q (F0 m (pc + 1) ls rest)) : W p l e (rmM mm) s m args below meth c H locs kc sc Q (F0 m pc ls (.ref (adr b B0 v) :: .int i :: .ref (adr b B0 o) :: rest)) := by
  have hK := hK_of hB
  obtain ⟨hx, hb, -, -, hown, hts, -⟩ := hB
  obtain ⟨hl, ha, hs⟩ := hM.arr hk h8
  obtain ⟨hlv, hav, hsv, hnf⟩ := hM.obj hkv
  have hg := wl_get (b := b) (B0 := B0) (cA := cA) hl
  rw [cel_ref (μ := (fr, n, kd, σ, lo, db)) hk] at hg
  have hgv := wl_get (b := b) (B0 := B0) (cA := cA) hlv
  rw [cel_obj (μ := (fr, n, kd, σ, lo, db)) hkv] at hgv
  obtain ⟨C, hC, hCe, hty, -⟩ := tyR (cA := cA) h4 h8
  obtain ⟨r', hr', cellV, g1, g2, g3, -⟩ := hM.1 v _ hgv
  have hcls := (hK.1 ci _ (vwC_get ci hc)).2
  obtain ⟨kA, comp, k1, k2, k3, -⟩ := (hK.2 ti _ hC).2
  have hcomp : comp = D.1 ci := by
    rw [hCe, ← hci] at k3
    exact Option.some.inj (k3.symm.trans hcls.1)
  subst hcomp
  have hasg := va_assign hcls
  obtain ⟨kC, hkC, -⟩ := hcls.2
  have hlt : i.toNatClampNeg < len := Nat.not_le.mp fun q => hin (Or.inr q)
  have h0 : ¬ i < 0 := fun q => hin (Or.inl q)
  rw [ha, hav]
  refine W.aast hx hb (hM.1 o _ hg) (fun q h => by cases h) (fun h => by cases h) k1 k2 rfl hkC ⟨h0, by show _ < (arrV _ _ _).slots.size; rw [arrV_size]; exact hlt⟩ g1 (fun q h => by rw [g3] at h; cases h) (by rw [g2]; exact hkC) (by rw [g2]; exact hasg) rfl rfl hd fun H1 e1 z oq => ?_
  have hk' : (uK kd o (.inr (ti, len, some (fun j => if j = i.toNatClampNeg then some v else f j)))) o = .inr (ti, len, some (fun j => if j = i.toNatClampNeg then some v else f j)) := uK_eq
  refine kk H1 _ (hM.put (a := o) hl rfl rfl ?_ ?_ z oq (fun q hq => uK_ne hq) hs (fun j => congrFun (hσ _ (Ne.symm hs)) j) ?_) (hS.put z oq (Nat.le_add_right _ _))
  · rw [cel_ref (μ := (fr, n, uK kd o (.inr (ti, len, some (fun j => if j = i.toNatClampNeg then some v else f j))), σ', lo, db)) hk']
    show H1[B0 + o]? = some (arrV (cA ti) len (fun j => va_rf ((if j = i.toNatClampNeg then some v else f j).map (adr b B0))))
    refine ar_st (g := fun j => va_rf ((f j).map (adr b B0))) e1 (fun j => ?_)
    simp only [updV]
    split
    · rw [← hav]; rfl
    · rfl
  · intro q hq _; exact cel_same (uK_ne hq) (hσ q hq) rfl rfl
  · intro ci nf fx h
    have h : uK kd o (.inr (ti, len, some (fun j => if j = i.toNatClampNeg then some v else f j))) o = .inl (ci, nf, fx) := h
    rw [uK_eq] at h; cases h
end OK
