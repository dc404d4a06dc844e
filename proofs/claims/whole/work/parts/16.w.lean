/-! ends of methods; the whole evaluator is the machine -/
def exChain : List String := ["java/lang/RuntimeException", "java/lang/Exception"]
theorem ex_0 : (vx_atS RX8 (exI 0) (exN 0) exChain).all (fun w => decide (w ∈ lw_tbl) && ((goodWord w || isNG w) && vx_ot w)) = true := by decide +kernel
theorem ex_1 : (vx_atS RX8 (exI 1) (exN 1) exChain).all (fun w => decide (w ∈ lw_tbl) && ((goodWord w || isNG w) && vx_ot w)) = true := by decide +kernel
theorem ex_2 : (vx_atS RX8 (exI 2) (exN 2) exChain).all (fun w => decide (w ∈ lw_tbl) && ((goodWord w || isNG w) && vx_ot w)) = true := by decide +kernel
theorem ex_4 : (vx_atS RX8 (exI 4) (exN 4) exChain).all (fun w => decide (w ∈ lw_tbl) && ((goodWord w || isNG w) && vx_ot w)) = true := by decide +kernel
theorem ex_5 : (vx_atS RX8 (exI 5) (exN 5) exChain).all (fun w => decide (w ∈ lw_tbl) && ((goodWord w || isNG w) && vx_ot w)) = true := by decide +kernel
theorem ex_3 : (nsAt RX8 (exI 3)).all (fun w => decide (w ∈ lw_tbl) && ((goodWord w || isNG w) && vx_ot w)) = true := by decide +kernel
theorem ex_at : ∀ E, E < 6 → E ≠ 3 → (vx_atS RX8 (exI E) (exN E) exChain).all (fun w => decide (w ∈ lw_tbl) && ((goodWord w || isNG w) && vx_ot w)) = true
  | 0, _, _ => ex_0
  | 1, _, _ => ex_1
  | 2, _, _ => ex_2
  | 3, _, h => absurd rfl h
  | 4, _, _ => ex_4
  | 5, _, _ => ex_5
  | n + 6, h, _ => absurd h (by omega)
theorem ex_ini : ∀ E, E < 6 → Cond.initialized (exN E) ∈ BIG ∧ Bundle.fit (exN E) = true
  | 0, _ => ⟨List.mem_filter.mpr ⟨List.mem_of_getElem? (i := 72) (by decide +kernel), rfl⟩, by decide +kernel⟩
  | 1, _ => ⟨List.mem_filter.mpr ⟨List.mem_of_getElem? (i := 74) (by decide +kernel), rfl⟩, by decide +kernel⟩
  | 2, _ => ⟨List.mem_filter.mpr ⟨List.mem_of_getElem? (i := 75) (by decide +kernel), rfl⟩, by decide +kernel⟩
  | 3, _ => ⟨List.mem_filter.mpr ⟨List.mem_of_getElem? (i := 79) (by decide +kernel), rfl⟩, by decide +kernel⟩
  | 4, _ => ⟨List.mem_filter.mpr ⟨List.mem_of_getElem? (i := 80) (by decide +kernel), rfl⟩, by decide +kernel⟩
  | 5, _ => ⟨List.mem_filter.mpr ⟨List.mem_of_getElem? (i := 81) (by decide +kernel), rfl⟩, by decide +kernel⟩
  | n + 6, h => absurd h (by omega)
