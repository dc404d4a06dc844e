/-! the kinds of objects: their words are in the tables -/
theorem inB_0 : ∀ w ∈ wsX00, w ∈ BIG := by
  have h : wsX00 = ([124, 126, 128, 130, 132, 134, 136, 138] : List Nat).filterMap (fun i => lw_tbl[i]?) := by decide +kernel
  have g : wsX00.all goodWord = true := by decide +kernel
  intro w hw
  refine List.mem_filter.mpr ⟨?_, List.all_eq_true.mp g w hw⟩
  rw [h] at hw
  obtain ⟨i, -, hi⟩ := List.mem_filterMap.mp hw
  exact List.mem_of_getElem? hi
theorem inB_1 : ∀ w ∈ wsX10, w ∈ BIG := by
  have h : wsX10 = ([241, 243, 245, 247, 249, 251, 253, 255, 257, 259, 261, 263, 265] : List Nat).filterMap (fun i => lw_tbl[i]?) := by decide +kernel
  have g : wsX10.all goodWord = true := by decide +kernel
  intro w hw
  refine List.mem_filter.mpr ⟨?_, List.all_eq_true.mp g w hw⟩
  rw [h] at hw
  obtain ⟨i, -, hi⟩ := List.mem_filterMap.mp hw
  exact List.mem_of_getElem? hi
theorem inB_2 : ∀ w ∈ wsX20, w ∈ BIG := by
  have h : wsX20 = ([196, 198, 200, 202, 204, 206, 208, 210, 212, 194] : List Nat).filterMap (fun i => lw_tbl[i]?) := by decide +kernel
  have g : wsX20.all goodWord = true := by decide +kernel
  intro w hw
  refine List.mem_filter.mpr ⟨?_, List.all_eq_true.mp g w hw⟩
  rw [h] at hw
  obtain ⟨i, -, hi⟩ := List.mem_filterMap.mp hw
  exact List.mem_of_getElem? hi
theorem inB_3 : ∀ w ∈ wsX30, w ∈ BIG := by
  have h : wsX30 = ([156, 158, 160, 162, 164] : List Nat).filterMap (fun i => lw_tbl[i]?) := by decide +kernel
  have g : wsX30.all goodWord = true := by decide +kernel
  intro w hw
  refine List.mem_filter.mpr ⟨?_, List.all_eq_true.mp g w hw⟩
  rw [h] at hw
  obtain ⟨i, -, hi⟩ := List.mem_filterMap.mp hw
  exact List.mem_of_getElem? hi
theorem inB_4 : ∀ w ∈ wsX40, w ∈ BIG := by
  have h : wsX40 = ([281, 283, 285] : List Nat).filterMap (fun i => lw_tbl[i]?) := by decide +kernel
  have g : wsX40.all goodWord = true := by decide +kernel
  intro w hw
  refine List.mem_filter.mpr ⟨?_, List.all_eq_true.mp g w hw⟩
  rw [h] at hw
  obtain ⟨i, -, hi⟩ := List.mem_filterMap.mp hw
  exact List.mem_of_getElem? hi
theorem inB_5 : ∀ w ∈ wsX50, w ∈ BIG := by
  have h : wsX50 = ([309, 311, 313, 315] : List Nat).filterMap (fun i => lw_tbl[i]?) := by decide +kernel
  have g : wsX50.all goodWord = true := by decide +kernel
  intro w hw
  refine List.mem_filter.mpr ⟨?_, List.all_eq_true.mp g w hw⟩
  rw [h] at hw
  obtain ⟨i, -, hi⟩ := List.mem_filterMap.mp hw
  exact List.mem_of_getElem? hi
theorem inB_6 : ∀ w ∈ wsX60, w ∈ BIG := by
  have h : wsX60 = ([349, 351] : List Nat).filterMap (fun i => lw_tbl[i]?) := by decide +kernel
  have g : wsX60.all goodWord = true := by decide +kernel
  intro w hw
  refine List.mem_filter.mpr ⟨?_, List.all_eq_true.mp g w hw⟩
  rw [h] at hw
  obtain ⟨i, -, hi⟩ := List.mem_filterMap.mp hw
  exact List.mem_of_getElem? hi
theorem inB_7 : ∀ w ∈ wsX70, w ∈ BIG := by
  have h : wsX70 = ([328, 330, 332, 334, 336] : List Nat).filterMap (fun i => lw_tbl[i]?) := by decide +kernel
  have g : wsX70.all goodWord = true := by decide +kernel
  intro w hw
  refine List.mem_filter.mpr ⟨?_, List.all_eq_true.mp g w hw⟩
  rw [h] at hw
  obtain ⟨i, -, hi⟩ := List.mem_filterMap.mp hw
  exact List.mem_of_getElem? hi
theorem inB_8 : ∀ w ∈ wsX80, w ∈ BIG := by
  have h : wsX80 = ([362, 364, 366, 368, 370, 372, 374, 376] : List Nat).filterMap (fun i => lw_tbl[i]?) := by decide +kernel
  have g : wsX80.all goodWord = true := by decide +kernel
  intro w hw
  refine List.mem_filter.mpr ⟨?_, List.all_eq_true.mp g w hw⟩
  rw [h] at hw
  obtain ⟨i, -, hi⟩ := List.mem_filterMap.mp hw
  exact List.mem_of_getElem? hi
theorem inB_9 : ∀ w ∈ wsX90, w ∈ BIG := by
  have h : wsX90 = ([1127, 1129, 1131, 1133, 1135, 1137, 1139, 1141, 1143, 1145, 1147, 1149, 1151, 1153, 1155, 1157, 1159, 1161, 1163, 1165] : List Nat).filterMap (fun i => lw_tbl[i]?) := by decide +kernel
  have g : wsX90.all goodWord = true := by decide +kernel
  intro w hw
  refine List.mem_filter.mpr ⟨?_, List.all_eq_true.mp g w hw⟩
  rw [h] at hw
  obtain ⟨i, -, hi⟩ := List.mem_filterMap.mp hw
  exact List.mem_of_getElem? hi
theorem vwC_get : ∀ ci, ci < 10 → vwC[ci]? = some (cN ci, fT ci, nfT ci)
  | 0, _ => rfl
  | 1, _ => rfl
  | 2, _ => rfl
  | 3, _ => rfl
  | 4, _ => rfl
  | 5, _ => rfl
  | 6, _ => rfl
  | 7, _ => rfl
  | 8, _ => rfl
  | 9, _ => rfl
  | n + 10, h => absurd h (by omega)
theorem inB : ∀ ci, ci < 10 → ∀ w ∈ u_ws (cN ci) (fT ci) (nfT ci), w ∈ BIG
  | 0, _ => inB_0
  | 1, _ => inB_1
  | 2, _ => inB_2
  | 3, _ => inB_3
  | 4, _ => inB_4
  | 5, _ => inB_5
  | 6, _ => inB_6
  | 7, _ => inB_7
  | 8, _ => inB_8
  | 9, _ => inB_9
  | n + 10, h => absurd h (by omega)
theorem fT_ty : ∀ ci, ci < 10 → ∀ k, k < nfT ci → parseFieldDescriptor (fT ci k).2.2.1 = some (ftT ci k)
  | 0, _ => tyX0_ok
  | 1, _ => tyX1_ok
  | 2, _ => tyX2_ok
  | 3, _ => tyX3_ok
  | 4, _ => tyX4_ok
  | 5, _ => tyX5_ok
  | 6, _ => tyX6_ok
  | 7, _ => tyX7_ok
  | 8, _ => tyX8_ok
  | 9, _ => tyX9_ok
  | n + 10, h => absurd h (by omega)
theorem fT_nm : ∀ ci, ci < 10 → ∀ x, x < nfT ci → ∀ y, y < nfT ci → x ≠ y → (fT ci x).2.1 ≠ (fT ci y).2.1
  | 0, _ => nmX0
  | 1, _ => nmX1
  | 2, _ => nmX2
  | 3, _ => nmX3
  | 4, _ => nmX4
  | 5, _ => nmX5
  | 6, _ => nmX6
  | 7, _ => nmX7
  | 8, _ => nmX8
  | 9, _ => nmX9
  | n + 10, h => absurd h (by omega)
theorem fT_own : ∀ ci, ci < 10 → ∀ k, k < nfT ci → (fT ci k).1 = cN ci := by decide +kernel
