/-! what the evaluator's states say of the machine's -/
abbrev vwC : List vw_C := [(RX0, TX0, 8), (RX1, TX1, 13), (RX2, TX2, 10), (RX3, TX3, 5), (RX4, TX4, 3), (RX5, TX5, 4), (RX6, TX6, 2), (RX7, TX7, 5), (RX8, TX8, 8), (RX9, TX9, 20)]
def cN (ci : Nat) : String := ([RX0, RX1, RX2, RX3, RX4, RX5, RX6, RX7, RX8, RX9, RL, RJ9, RJ6, RJO] : List String).getD ci RX0
def fT (ci : Nat) : u_T := ([TX0, TX1, TX2, TX3, TX4, TX5, TX6, TX7, TX8, TX9] : List u_T).getD ci TX0
def ftT (ci : Nat) : Nat → FieldType := ([tyX0, tyX1, tyX2, tyX3, tyX4, tyX5, tyX6, tyX7, tyX8, tyX9] : List (Nat → FieldType)).getD ci tyX0
abbrev tysL (cA : Nat → ClassId) : List (ClassId × FieldType) := [(cA 0, .int), (cA 1, .char), (cA 2, .long), (cA 3, .double), (cA 4, .object RX3), (cA 5, .object RX2), (cA 6, .object RX1), (cA 7, .object RX5)]
def BIG : List Cond := lw_tbl.filter goodWord
def AA (B0 : Nat) : Nat → Prop := fun q => B0 ≤ q
def adr (b B0 a : Nat) : Nat := if a = SCR then b else B0 + a
def rv (b B0 : Nat) : Value → Value
  | .ref a => .ref (adr b B0 a)
  | v => v
theorem rv_cat (b B0 : Nat) (v : Value) : (rv b B0 v).category = v.category := by cases v <;> rfl
def cel (b B0 : Nat) (cA : Nat → ClassId) (μ : Me) (a : Nat) : va_E := match μ.2.2.1 a with
  | .inl (ci, nf, fx) => .inr (ci, (List.range nf).map (fun k => match fx k with | some v => rv b B0 v | none => .int (μ.2.2.2.1 a k)))
  | .inr (ti, len, some f) => .inl (cA ti, len, .inr (.inr (.inr (.inr (fun j => (f j).map (adr b B0))))))
  | .inr (ti, len, none) => .inl (cA ti, len, if ti = 2 then .inr (.inl (μ.2.2.2.2.1 a)) else if ti = 3 then .inr (.inr (.inr (.inl (μ.2.2.2.2.2 a)))) else .inl (μ.2.2.2.1 a))
def wl (b B0 : Nat) (cA : Nat → ClassId) (μ : Me) : va_W := (List.range μ.2.1).map (fun a => (B0 + a, cel b B0 cA μ a))
theorem wl_get {b B0 : Nat} {cA : Nat → ClassId} {μ : Me} {a : Nat} (h : a < μ.2.1) : (wl b B0 cA μ)[a]? = some (B0 + a, cel b B0 cA μ a) := by
  simp [wl, h]
theorem wl_D {b B0 : Nat} {cA : Nat → ClassId} {μ : Me} : va_D (AA B0) (wl b B0 cA μ) := by
  refine ⟨fun i j p q hi hj h => ?_, fun k q hk => ?_⟩
  · simp only [wl, List.getElem?_map, Option.map_eq_some_iff, List.getElem?_eq_some_iff, List.length_range, List.getElem_range] at hi hj
    obtain ⟨x, ⟨hx, rfl⟩, rfl⟩ := hi
    obtain ⟨y, ⟨hy, rfl⟩, rfl⟩ := hj
    simp only at h
    omega
  · simp only [wl, List.getElem?_map, Option.map_eq_some_iff, List.getElem?_eq_some_iff, List.length_range, List.getElem_range] at hk
    obtain ⟨x, ⟨hx, rfl⟩, rfl⟩ := hk
    exact Nat.le_add_right _ _
theorem wl_set {b B0 : Nat} {cA : Nat → ClassId} {μ μ' : Me} {a : Nat} {e : va_E} (hn : μ'.2.1 = μ.2.1) (ha : cel b B0 cA μ' a = e) (ho : ∀ q, q ≠ a → q < μ.2.1 → cel b B0 cA μ' q = cel b B0 cA μ q) : (wl b B0 cA μ).set a (B0 + a, e) = wl b B0 cA μ' := by
  apply List.ext_getElem?
  intro i
  simp only [wl, List.getElem?_set, List.length_map, List.length_range, List.getElem?_map, hn]
  by_cases hi : a = i
  · subst hi
    by_cases hl : a < μ.2.1
    · simp [hl, ha]
    · simp [hl]
  · rw [if_neg hi]
    by_cases hl : i < μ.2.1
    · simp [hl, ho i (Ne.symm hi) hl]
    · simp [hl]
theorem wl_push {b B0 : Nat} {cA : Nat → ClassId} {μ μ' : Me} {e : va_E} (hn : μ'.2.1 = μ.2.1 + 1) (ha : cel b B0 cA μ' μ.2.1 = e) (ho : ∀ q, q < μ.2.1 → cel b B0 cA μ' q = cel b B0 cA μ q) : wl b B0 cA μ ++ [(B0 + μ.2.1, e)] = wl b B0 cA μ' := by
  simp only [wl, hn, List.range_succ, List.map_append, List.map_cons, List.map_nil, ha]
  congr 1
  exact (List.map_congr_left fun q hq => by rw [ho q (List.mem_range.mp hq)]).symm
/-- the heap holds the memory -/
def RelM (D : va_G) (cA : Nat → ClassId) (B0 b Ln : Nat) (xs : Nat → Int32) (μ : Me) (H : Heap) : Prop :=
  va_P D vwC (wl b B0 cA μ) H ∧ (μ.1 = true → H.size = B0 + μ.2.1) ∧ B0 + μ.2.1 ≤ H.size ∧ μ.2.1 ≤ SCR ∧ (∀ a, μ.2.1 ≤ a → a ≠ SCR → μ.2.2.1 a = dead) ∧ μ.2.2.1 SCR = .inr (8, Ln, none) ∧ (∀ j, μ.2.2.2.1 SCR j = xs j) ∧ ∀ a ci nf fx, μ.2.2.1 a = .inl (ci, nf, fx) → nf = nfT ci
theorem RelM.obj {D : va_G} {cA : Nat → ClassId} {B0 b Ln : Nat} {xs : Nat → Int32} {μ : Me} {H : Heap} (h : RelM D cA B0 b Ln xs μ H) {a ci nf : Nat} {fx : Nat → Option Value} (hk : μ.2.2.1 a = .inl (ci, nf, fx)) : a < μ.2.1 ∧ adr b B0 a = B0 + a ∧ a ≠ SCR ∧ nf = nfT ci := by
  obtain ⟨-, -, -, -, h5, h6, -, h8⟩ := h
  have hs : a ≠ SCR := fun q => by rw [q, h6] at hk; cases hk
  have hl : a < μ.2.1 := by
    rcases Nat.lt_or_ge a μ.2.1 with q | q
    · exact q
    · rw [h5 a q hs] at hk; cases hk
  exact ⟨hl, if_neg hs, hs, h8 a ci nf fx hk⟩
theorem RelM.arr {D : va_G} {cA : Nat → ClassId} {B0 b Ln : Nat} {xs : Nat → Int32} {μ : Me} {H : Heap} (h : RelM D cA B0 b Ln xs μ H) {a ti len : Nat} {f : Option (Nat → Option Nat)} (hk : μ.2.2.1 a = .inr (ti, len, f)) (ht : ti < 8) : a < μ.2.1 ∧ adr b B0 a = B0 + a ∧ a ≠ SCR := by
  obtain ⟨-, -, -, -, h5, h6, -, h8⟩ := h
  have hs : a ≠ SCR := fun q => by rw [q, h6] at hk; cases hk; omega
  have hl : a < μ.2.1 := by
    rcases Nat.lt_or_ge a μ.2.1 with q | q
    · exact q
    · rw [h5 a q hs] at hk; cases hk; omega
  exact ⟨hl, if_neg hs, hs⟩
/-- the locals -/
def LVr (b B0 mm : Nat) (ls : Array Slot) (L : Lc) : Prop := ls.size = mL mm ∧ lv_wf ls ∧ (∀ (k : Nat) (v : Value), L[k]? = some v → v ≠ .null → ls[k]? = some (.val (rv b B0 v))) ∧ (isScr mm = false → ∀ v ∈ L, v.category = 1)
def toAl (b B0 : Nat) (L : Lc) : List (Nat × Value) := (List.range L.length).filterMap (fun k => match L[k]? with
  | some v => if v = .null then none else some (k, rv b B0 v)
  | none => none)
theorem mem_toAl {b B0 : Nat} {L : Lc} {q : Nat × Value} : q ∈ toAl b B0 L ↔ ∃ v, L[q.1]? = some v ∧ v ≠ .null ∧ q.2 = rv b B0 v := by
  simp only [toAl, List.mem_filterMap, List.mem_range]
  constructor
  · rintro ⟨k, hk, h⟩
    rw [List.getElem?_eq_getElem hk] at h
    simp only at h
    split at h
    · cases h
    · next hn =>
      cases h
      exact ⟨L[k], List.getElem?_eq_getElem hk, hn, rfl⟩
  · rintro ⟨v, h1, h2, h3⟩
    obtain ⟨hk, hv⟩ := List.getElem?_eq_some_iff.mp h1
    refine ⟨q.1, hk, ?_⟩
    rw [h1]
    simp only [if_neg h2, ← h3]
theorem LVr.has {b B0 mm : Nat} {ls : Array Slot} {L : Lc} (h : LVr b B0 mm ls L) : lv_has ls (mL mm) (toAl b B0 L) := by
  refine ⟨h.1, h.2.1, fun q hq => ?_⟩
  obtain ⟨v, h1, h2, h3⟩ := mem_toAl.mp hq
  rw [h3]
  exact h.2.2.1 _ _ h1 h2
theorem nz_get {L : Lc} {i k : Nat} {w : Value} (hw : w ≠ .null) (h : (nz L i)[k]? = some w) : L[k]? = some w ∧ ¬ (k + 1 = i ∧ w.category = 2) := by
  cases i with
  | zero => exact ⟨h, fun q => by omega⟩
  | succ j =>
    simp only [nz] at h
    split at h
    · next v hv =>
      split at h
      · next hc =>
        rw [List.getElem?_set] at h
        split at h
        · split at h
          · cases h; exact absurd rfl hw
          · cases h
        · next hne => exact ⟨h, fun q => hne (by omega)⟩
      · next hc =>
        refine ⟨h, fun q => ?_⟩
        obtain ⟨q1, q2⟩ := q
        have : k = j := by omega
        subst this
        rw [hv] at h
        cases h
        exact hc q2
    · next hv =>
      refine ⟨h, fun q => ?_⟩
      obtain ⟨q1, q2⟩ := q
      have : k = j := by omega
      subst this
      rw [hv] at h
      cases h
theorem LVr.store {b B0 mm : Nat} {ls ls' : Array Slot} {L : Lc} {i : Nat} {v : Value} (h : LVr b B0 mm ls L) (hc : v.category = 1)
    (h' : lv_has ls' (mL mm) ((i, rv b B0 v) :: (toAl b B0 L).filter (fun q => !(q.1 == i) && !(q.1 + 1 == i && q.2.category == 2)))) : LVr b B0 mm ls' (wrL mm L i v) := by
  refine ⟨h'.1, h'.2.1, fun k w hk hw => ?_, fun hs w hw => ?_⟩
  · have key : k = i ∧ w = v ∨ (k ≠ i ∧ L[k]? = some w ∧ ¬ (k + 1 = i ∧ w.category = 2)) := by
      unfold wrL at hk
      split at hk
      · rw [List.getElem?_set] at hk
        split at hk
        · next e =>
          split at hk
          · cases hk; exact Or.inl ⟨e.symm, rfl⟩
          · cases hk
        · next e =>
          obtain ⟨a1, a2⟩ := nz_get hw hk
          exact Or.inr ⟨Ne.symm e, a1, a2⟩
      · next hsc =>
        rw [List.getElem?_set] at hk
        split at hk
        · next e =>
          split at hk
          · cases hk; exact Or.inl ⟨e.symm, rfl⟩
          · cases hk
        · next e =>
          refine Or.inr ⟨Ne.symm e, hk, fun q => ?_⟩
          have := h.2.2.2 (by cases hm : isScr mm <;> simp_all) w (List.mem_of_getElem? hk)
          omega
    rcases key with ⟨rfl, rfl⟩ | ⟨h1, h2, h3⟩
    · exact h'.2.2 (k, rv b B0 w) List.mem_cons_self
    · refine h'.2.2 (k, rv b B0 w) (List.mem_cons_of_mem _ (List.mem_filter.mpr ⟨mem_toAl.mpr ⟨w, h2, hw, rfl⟩, ?_⟩))
      simp only [rv_cat]
      by_cases hk1 : k + 1 = i
      · have : w.category ≠ 2 := fun q => h3 ⟨hk1, q⟩
        simp [h1, this]
      · simp [h1, hk1]
  · unfold wrL at hw
    rw [hs] at hw
    simp only [Bool.false_eq_true, if_false] at hw
    rcases List.mem_or_eq_of_mem_set hw with q | q
    · exact h.2.2.2 hs w q
    · rw [q]; exact hc
theorem LVr.store2 {b B0 mm : Nat} {ls ls' : Array Slot} {L : Lc} {i : Nat} {v : Value} (h : LVr b B0 mm ls L) (hsc : isScr mm = true)
    (h' : lv_has ls' (mL mm) ((i, rv b B0 v) :: (toAl b B0 L).filter (fun q => !(q.1 == i) && (!(q.1 == i + 1) && !(q.1 + 1 == i && q.2.category == 2))))) : LVr b B0 mm ls' (((nz L i).set i v).set (i + 1) .null) := by
  refine ⟨h'.1, h'.2.1, fun k w hk hw => ?_, fun hs => by rw [hsc] at hs; cases hs⟩
  rw [List.getElem?_set] at hk
  split at hk
  · split at hk
    · cases hk; exact absurd rfl hw
    · cases hk
  · next e1 =>
    rw [List.getElem?_set] at hk
    split at hk
    · next e =>
      split at hk
      · cases hk
        rw [← e]
        exact h'.2.2 (i, rv b B0 v) List.mem_cons_self
      · cases hk
    · next e =>
      obtain ⟨a1, a2⟩ := nz_get hw hk
      refine h'.2.2 (k, rv b B0 w) (List.mem_cons_of_mem _ (List.mem_filter.mpr ⟨mem_toAl.mpr ⟨w, a1, hw, rfl⟩, ?_⟩))
      simp only [rv_cat]
      have n1 : k ≠ i := Ne.symm e
      have n2 : k ≠ i + 1 := Ne.symm e1
      by_cases hk1 : k + 1 = i
      · have : w.category ≠ 2 := fun q => a2 ⟨hk1, q⟩
        simp [n1, n2, this]
      · simp [n1, n2, hk1]
