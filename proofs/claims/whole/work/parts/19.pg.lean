set_option maxRecDepth 100000
theorem all_end {α : Type} {p : α → Bool} {l : List α} {i : Nat} (h : l.length ≤ i) : (l.drop i).all p = true := by
  rw [List.drop_eq_nil_of_le h]; rfl
theorem all_0 {α : Type} {p : α → Bool} {l : List α} (h : (l.drop 0).all p = true) : l.all p = true := h
theorem all_tk {α : Type} {p : α → Bool} {l : List α} {i n : Nat} (h : ((l.drop i).take n).all p = true) (h2 : (l.drop (i + n)).all p = true) : (l.drop i).all p = true := by
  rw [← List.take_append_drop n (l.drop i), List.all_append, h, List.drop_drop, h2]; rfl
theorem pc_0 : pg_0.all (chk LK_0 cX0_init) = true := by decide +kernel
theorem pk_0 : ∀ q ∈ pg_0, OpOk 0 q.1 q.2 := chk_ok pc_0 LKok_0 rfl rfl (fun q h => absurd h List.not_mem_nil) (fun _ _ => Or.inr rfl)
theorem pc_1 : pg_1.all (chk LK_0 cX0_copyFrom) = true := by decide +kernel
theorem pk_1 : ∀ q ∈ pg_1, OpOk 1 q.1 q.2 := chk_ok pc_1 LKok_0 rfl rfl (fun q h => absurd h List.not_mem_nil) (fun _ _ => Or.inr rfl)
theorem pc_2 : pg_2.all (chk LK_0 cX0_numberOf) = true := by decide +kernel
theorem pk_2 : ∀ q ∈ pg_2, OpOk 2 q.1 q.2 := chk_ok pc_2 LKok_0 rfl rfl (fun q h => absurd h List.not_mem_nil) (fun _ _ => Or.inr rfl)
theorem pc_3 : pg_3.all (chk LK_1 cX1_init) = true := by decide +kernel
theorem pk_3 : ∀ q ∈ pg_3, OpOk 3 q.1 q.2 := chk_ok pc_3 LKok_1 rfl rfl (fun q h => absurd h List.not_mem_nil) (fun _ _ => Or.inr rfl)
theorem pc_4 : pg_4.all (chk LK_1 cX1_copyFrom) = true := by decide +kernel
theorem pk_4 : ∀ q ∈ pg_4, OpOk 4 q.1 q.2 := chk_ok pc_4 LKok_1 rfl rfl (fun q h => absurd h List.not_mem_nil) (fun _ _ => Or.inr rfl)
theorem pc_5 : pg_5.all (chk LK_1 cX1_hasGate) = true := by decide +kernel
theorem pk_5 : ∀ q ∈ pg_5, OpOk 5 q.1 q.2 := chk_ok pc_5 LKok_1 rfl rfl (fun q h => absurd h List.not_mem_nil) (fun _ _ => Or.inr rfl)
theorem pc_6 : pg_6.all (chk LK_1 cX1_hasGarden) = true := by decide +kernel
theorem pk_6 : ∀ q ∈ pg_6, OpOk 6 q.1 q.2 := chk_ok pc_6 LKok_1 rfl rfl (fun q h => absurd h List.not_mem_nil) (fun _ _ => Or.inr rfl)
theorem pc_7 : pg_7.all (chk LK_1 cX1_addGate) = true := by decide +kernel
theorem pk_7 : ∀ q ∈ pg_7, OpOk 7 q.1 q.2 := chk_ok pc_7 LKok_1 rfl rfl (fun q h => absurd h List.not_mem_nil) (fun _ _ => Or.inr rfl)
theorem pc_8 : pg_8.all (chk LK_1 cX1_addGarden) = true := by decide +kernel
theorem pk_8 : ∀ q ∈ pg_8, OpOk 8 q.1 q.2 := chk_ok pc_8 LKok_1 rfl rfl (fun q h => absurd h List.not_mem_nil) (fun _ _ => Or.inr rfl)
theorem pc_9 : pg_9.all (chk LK_1 cX1_letHoursGoBy) = true := by decide +kernel
theorem pk_9 : ∀ q ∈ pg_9, OpOk 9 q.1 q.2 := chk_ok pc_9 LKok_1 rfl rfl (fun q h => absurd h List.not_mem_nil) (fun _ _ => Or.inr rfl)
theorem pc_10 : pg_10.all (chk LK_1 cX1_takeInHours) = true := by decide +kernel
theorem pk_10 : ∀ q ∈ pg_10, OpOk 10 q.1 q.2 := chk_ok pc_10 LKok_1 rfl rfl (fun q h => absurd h List.not_mem_nil) (fun _ _ => Or.inr rfl)
theorem pc_11 : pg_11.all (chk LK_1 cX1_letHourGoBy) = true := by decide +kernel
theorem pk_11 : ∀ q ∈ pg_11, OpOk 11 q.1 q.2 := chk_ok pc_11 LKok_1 rfl rfl (fun q h => absurd h List.not_mem_nil) (fun _ _ => Or.inr rfl)
theorem pc_12 : pg_12.all (chk LK_1 cX1_growThirsts) = true := by decide +kernel
theorem pk_12 : ∀ q ∈ pg_12, OpOk 12 q.1 q.2 := chk_ok pc_12 LKok_1 rfl rfl (fun q h => absurd h List.not_mem_nil) (fun _ _ => Or.inr rfl)
theorem pc_13 : pg_13.all (chk LK_1 cX1_growLeaks) = true := by decide +kernel
theorem pk_13 : ∀ q ∈ pg_13, OpOk 13 q.1 q.2 := chk_ok pc_13 LKok_1 rfl rfl (fun q h => absurd h List.not_mem_nil) (fun _ _ => Or.inr rfl)
theorem pc_14 : pg_14.all (chk LK_1 cX1_runPastGates) = true := by decide +kernel
theorem pk_14 : ∀ q ∈ pg_14, OpOk 14 q.1 q.2 := chk_ok pc_14 LKok_1 rfl rfl (fun q h => absurd h List.not_mem_nil) (fun _ _ => Or.inr rfl)
theorem pc_15 : pg_15.all (chk LK_1 cX1_waterGardens) = true := by decide +kernel
theorem pk_15 : ∀ q ∈ pg_15, OpOk 15 q.1 q.2 := chk_ok pc_15 LKok_1 rfl rfl (fun q h => absurd h List.not_mem_nil) (fun _ _ => Or.inr rfl)
theorem pc_16 : pg_16.all (chk LK_1 cX1_runPastThieves) = true := by decide +kernel
theorem pk_16 : ∀ q ∈ pg_16, OpOk 16 q.1 q.2 := chk_ok pc_16 LKok_1 rfl rfl (fun q h => absurd h List.not_mem_nil) (fun _ _ => Or.inr rfl)
theorem pc_17 : pg_17.all (chk LK_1 cX1_putInOrder) = true := by decide +kernel
theorem pk_17 : ∀ q ∈ pg_17, OpOk 17 q.1 q.2 := chk_ok pc_17 LKok_1 rfl rfl (fun q h => absurd h List.not_mem_nil) (fun _ _ => Or.inr rfl)
theorem pc_18 : pg_18.all (chk LK_1 cX1_countAheadOf) = true := by decide +kernel
theorem pk_18 : ∀ q ∈ pg_18, OpOk 18 q.1 q.2 := chk_ok pc_18 LKok_1 rfl rfl (fun q h => absurd h List.not_mem_nil) (fun _ _ => Or.inr rfl)
theorem pc_19 : pg_19.all (chk LK_2 cX2_comesAheadOf) = true := by decide +kernel
theorem pk_19 : ∀ q ∈ pg_19, OpOk 19 q.1 q.2 := chk_ok pc_19 LKok_2 rfl rfl (fun q h => absurd h List.not_mem_nil) (fun _ _ => Or.inr rfl)
theorem pc_20 : pg_20.all (chk LK_1 cX1_refusesComplaint) = true := by decide +kernel
theorem pk_20 : ∀ q ∈ pg_20, OpOk 20 q.1 q.2 := chk_ok pc_20 LKok_1 rfl rfl (fun q h => absurd h List.not_mem_nil) (fun _ _ => Or.inr rfl)
theorem pc_21 : pg_21.all (chk LK_1 cX1_addComplaint) = true := by decide +kernel
theorem pk_21 : ∀ q ∈ pg_21, OpOk 21 q.1 q.2 := chk_ok pc_21 LKok_1 rfl rfl (fun q h => absurd h List.not_mem_nil) (fun _ _ => Or.inr rfl)
theorem pc_22 : pg_22.all (chk LK_1 cX1_hearComplaints) = true := by decide +kernel
theorem pk_22 : ∀ q ∈ pg_22, OpOk 22 q.1 q.2 := chk_ok pc_22 LKok_1 rfl rfl (fun q h => absurd h List.not_mem_nil) (fun _ _ => Or.inr rfl)
theorem pc_23 : pg_23.all (chk LK_1 cX1_hearComplaint) = true := by decide +kernel
theorem pk_23 : ∀ q ∈ pg_23, OpOk 23 q.1 q.2 := chk_ok pc_23 LKok_1 rfl rfl (fun q h => absurd h List.not_mem_nil) (fun _ _ => Or.inr rfl)
theorem pc_24 : pg_24.all (chk LK_1 cX1_refusesRepair) = true := by decide +kernel
theorem pk_24 : ∀ q ∈ pg_24, OpOk 24 q.1 q.2 := chk_ok pc_24 LKok_1 rfl rfl (fun q h => absurd h List.not_mem_nil) (fun _ _ => Or.inr rfl)
theorem pc_25 : pg_25.all (chk LK_1 cX1_mend) = true := by decide +kernel
theorem pk_25 : ∀ q ∈ pg_25, OpOk 25 q.1 q.2 := chk_ok pc_25 LKok_1 rfl rfl (fun q h => absurd h List.not_mem_nil) (fun _ _ => Or.inr rfl)
theorem pc_26 : pg_26.all (chk LK_1 cX1_sharesFrom) = true := by decide +kernel
theorem pk_26 : ∀ q ∈ pg_26, OpOk 26 q.1 q.2 := chk_ok pc_26 LKok_1 rfl rfl (fun q h => absurd h List.not_mem_nil) (fun _ _ => Or.inr rfl)
theorem pc_27 : pg_27.all (chk LK_1 cX1_partOf) = true := by decide +kernel
theorem pk_27 : ∀ q ∈ pg_27, OpOk 27 q.1 q.2 := chk_ok pc_27 LKok_1 rfl rfl (fun q h => absurd h List.not_mem_nil) (fun _ _ => Or.inr rfl)
theorem pc_28 : pg_28.all (chk LK_1 cX1_paymentOf) = true := by decide +kernel
theorem pk_28 : ∀ q ∈ pg_28, OpOk 28 q.1 q.2 := chk_ok pc_28 LKok_1 rfl rfl (fun q h => absurd h List.not_mem_nil) (fun _ _ => Or.inr rfl)
theorem pc_29 : pg_29.all (chk LK_1 cX1_carryOut) = true := by decide +kernel
theorem pk_29 : ∀ q ∈ pg_29, OpOk 29 q.1 q.2 := chk_ok pc_29 LKok_1 rfl rfl (fun q h => absurd h List.not_mem_nil) (fun _ _ => Or.inr rfl)
theorem pc_30 : pg_30.all (chk LK_1 cX1_orderHours) = true := by decide +kernel
theorem pk_30 : ∀ q ∈ pg_30, OpOk 30 q.1 q.2 := chk_ok pc_30 LKok_1 rfl rfl (fun q h => absurd h List.not_mem_nil) (fun _ _ => Or.inr rfl)
theorem pc_31 : pg_31.all (chk LK_1 cX1_orderInflow) = true := by decide +kernel
theorem pk_31 : ∀ q ∈ pg_31, OpOk 31 q.1 q.2 := chk_ok pc_31 LKok_1 rfl rfl (fun q h => absurd h List.not_mem_nil) (fun _ _ => Or.inr rfl)
theorem pc_32 : pg_32.all (chk LK_1 cX1_orderComplaint) = true := by decide +kernel
theorem pk_32 : ∀ q ∈ pg_32, OpOk 32 q.1 q.2 := chk_ok pc_32 LKok_1 rfl rfl (fun q h => absurd h List.not_mem_nil) (fun _ _ => Or.inr rfl)
theorem pc_33 : pg_33.all (chk LK_1 cX1_orderRepair) = true := by decide +kernel
theorem pk_33 : ∀ q ∈ pg_33, OpOk 33 q.1 q.2 := chk_ok pc_33 LKok_1 rfl rfl (fun q h => absurd h List.not_mem_nil) (fun _ _ => Or.inr rfl)
theorem pc_34 : pg_34.all (chk LK_1 cX1_numberOfGate) = true := by decide +kernel
theorem pk_34 : ∀ q ∈ pg_34, OpOk 34 q.1 q.2 := chk_ok pc_34 LKok_1 rfl rfl (fun q h => absurd h List.not_mem_nil) (fun _ _ => Or.inr rfl)
theorem pc_35 : pg_35.all (chk LK_1 cX1_countGardensAt) = true := by decide +kernel
theorem pk_35 : ∀ q ∈ pg_35, OpOk 35 q.1 q.2 := chk_ok pc_35 LKok_1 rfl rfl (fun q h => absurd h List.not_mem_nil) (fun _ _ => Or.inr rfl)
theorem pc_36 : pg_36.all (chk LK_1 cX1_accountOf) = true := by decide +kernel
theorem pk_36 : ∀ q ∈ pg_36, OpOk 36 q.1 q.2 := chk_ok pc_36 LKok_1 rfl rfl (fun q h => absurd h List.not_mem_nil) (fun _ _ => Or.inr rfl)
theorem pc_37 : pg_37.all (chk LK_1 cX1_sumOfCoins) = true := by decide +kernel
theorem pk_37 : ∀ q ∈ pg_37, OpOk 37 q.1 q.2 := chk_ok pc_37 LKok_1 rfl rfl (fun q h => absurd h List.not_mem_nil) (fun _ _ => Or.inr rfl)
theorem pc_38 : pg_38.all (chk LK_1 cX1_sumOfThirsts) = true := by decide +kernel
theorem pk_38 : ∀ q ∈ pg_38, OpOk 38 q.1 q.2 := chk_ok pc_38 LKok_1 rfl rfl (fun q h => absurd h List.not_mem_nil) (fun _ _ => Or.inr rfl)
theorem pc_39 : pg_39.all (chk LK_1 cX1_hasDriestGarden) = true := by decide +kernel
theorem pk_39 : ∀ q ∈ pg_39, OpOk 39 q.1 q.2 := chk_ok pc_39 LKok_1 rfl rfl (fun q h => absurd h List.not_mem_nil) (fun _ _ => Or.inr rfl)
theorem pc_40 : pg_40.all (chk LK_1 cX1_isBalanced) = true := by decide +kernel
theorem pk_40 : ∀ q ∈ pg_40, OpOk 40 q.1 q.2 := chk_ok pc_40 LKok_1 rfl rfl (fun q h => absurd h List.not_mem_nil) (fun _ _ => Or.inr rfl)
theorem pc_41 : pg_41.all (chk LK_2 cX2_init) = true := by decide +kernel
theorem pk_41 : ∀ q ∈ pg_41, OpOk 41 q.1 q.2 := chk_ok pc_41 LKok_2 rfl rfl (fun q h => absurd h List.not_mem_nil) (fun _ _ => Or.inr rfl)
theorem pc_42 : pg_42.all (chk LK_2 cX2_setUp) = true := by decide +kernel
theorem pk_42 : ∀ q ∈ pg_42, OpOk 42 q.1 q.2 := chk_ok pc_42 LKok_2 rfl rfl (fun q h => absurd h List.not_mem_nil) (fun _ _ => Or.inr rfl)
theorem pc_43 : pg_43.all (chk LK_2 cX2_copyFrom) = true := by decide +kernel
theorem pk_43 : ∀ q ∈ pg_43, OpOk 43 q.1 q.2 := chk_ok pc_43 LKok_2 rfl rfl (fun q h => absurd h List.not_mem_nil) (fun _ _ => Or.inr rfl)
theorem pc_44 : pg_44.all (chk LK_2 cX2_drinkOf) = true := by decide +kernel
theorem pk_44 : ∀ q ∈ pg_44, OpOk 44 q.1 q.2 := chk_ok pc_44 LKok_2 rfl rfl (fun q h => absurd h List.not_mem_nil) (fun _ _ => Or.inr rfl)
theorem pc_45 : pg_45.all (chk LK_2 cX2_noteTheft) = true := by decide +kernel
theorem pk_45 : ∀ q ∈ pg_45, OpOk 45 q.1 q.2 := chk_ok pc_45 LKok_2 rfl rfl (fun q h => absurd h List.not_mem_nil) (fun _ _ => Or.inr rfl)
theorem pc_46 : pg_46.all (chk LK_2 cX2_stoleInWeekOf) = true := by decide +kernel
theorem pk_46 : ∀ q ∈ pg_46, OpOk 46 q.1 q.2 := chk_ok pc_46 LKok_2 rfl rfl (fun q h => absurd h List.not_mem_nil) (fun _ _ => Or.inr rfl)
theorem pc_47 : pg_47.all (chk LK_2 cX2_numberOf) = true := by decide +kernel
theorem pk_47 : ∀ q ∈ pg_47, OpOk 47 q.1 q.2 := chk_ok pc_47 LKok_2 rfl rfl (fun q h => absurd h List.not_mem_nil) (fun _ _ => Or.inr rfl)
theorem pc_48 : pg_48.all (chk LK_3 cX3_init) = true := by decide +kernel
theorem pk_48 : ∀ q ∈ pg_48, OpOk 48 q.1 q.2 := chk_ok pc_48 LKok_3 rfl rfl (fun q h => absurd h List.not_mem_nil) (fun _ _ => Or.inr rfl)
theorem pc_49 : pg_49.all (chk LK_3 cX3_setUp) = true := by decide +kernel
theorem pk_49 : ∀ q ∈ pg_49, OpOk 49 q.1 q.2 := chk_ok pc_49 LKok_3 rfl rfl (fun q h => absurd h List.not_mem_nil) (fun _ _ => Or.inr rfl)
theorem pc_50 : pg_50.all (chk LK_3 cX3_copyFrom) = true := by decide +kernel
theorem pk_50 : ∀ q ∈ pg_50, OpOk 50 q.1 q.2 := chk_ok pc_50 LKok_3 rfl rfl (fun q h => absurd h List.not_mem_nil) (fun _ _ => Or.inr rfl)
theorem pc_51 : pg_51.all (chk LK_3 cX3_costOfRepair) = true := by decide +kernel
theorem pk_51 : ∀ q ∈ pg_51, OpOk 51 q.1 q.2 := chk_ok pc_51 LKok_3 rfl rfl (fun q h => absurd h List.not_mem_nil) (fun _ _ => Or.inr rfl)
theorem pc_52 : pg_52.all (chk LK_3 cX3_isOpenIn) = true := by decide +kernel
theorem pk_52 : ∀ q ∈ pg_52, OpOk 52 q.1 q.2 := chk_ok pc_52 LKok_3 rfl rfl (fun q h => absurd h List.not_mem_nil) (fun _ _ => Or.inr rfl)
theorem pc_53 : pg_53.all (chk LK_3 cX3_setHour) = true := by decide +kernel
theorem pk_53 : ∀ q ∈ pg_53, OpOk 53 q.1 q.2 := chk_ok pc_53 LKok_3 rfl rfl (fun q h => absurd h List.not_mem_nil) (fun _ _ => Or.inr rfl)
theorem pc_54 : pg_54.all (chk LK_3 cX3_setHours) = true := by decide +kernel
theorem pk_54 : ∀ q ∈ pg_54, OpOk 54 q.1 q.2 := chk_ok pc_54 LKok_3 rfl rfl (fun q h => absurd h List.not_mem_nil) (fun _ _ => Or.inr rfl)
theorem pc_55 : pg_55.all (chk LK_3 cX3_countOpenHours) = true := by decide +kernel
theorem pk_55 : ∀ q ∈ pg_55, OpOk 55 q.1 q.2 := chk_ok pc_55 LKok_3 rfl rfl (fun q h => absurd h List.not_mem_nil) (fun _ _ => Or.inr rfl)
theorem pc_56 : pg_56.all (chk LK_3 cX3_hoursUntilOpen) = true := by decide +kernel
theorem pk_56 : ∀ q ∈ pg_56, OpOk 56 q.1 q.2 := chk_ok pc_56 LKok_3 rfl rfl (fun q h => absurd h List.not_mem_nil) (fun _ _ => Or.inr rfl)
theorem pc_57 : pg_57.all (chk LK_4 cX4_init) = true := by decide +kernel
theorem pk_57 : ∀ q ∈ pg_57, OpOk 57 q.1 q.2 := chk_ok pc_57 LKok_4 rfl rfl (fun q h => absurd h List.not_mem_nil) (fun _ _ => Or.inr rfl)
theorem pc_58 : pg_58.all (chk LK_4 cX4_keep) = true := by decide +kernel
theorem pk_58 : ∀ q ∈ pg_58, OpOk 58 q.1 q.2 := chk_ok pc_58 LKok_4 rfl rfl (fun q h => absurd h List.not_mem_nil) (fun _ _ => Or.inr rfl)
theorem pc_59 : pg_59.all (chk LK_4 cX4_giveBack) = true := by decide +kernel
theorem pk_59 : ∀ q ∈ pg_59, OpOk 59 q.1 q.2 := chk_ok pc_59 LKok_4 rfl rfl (fun q h => absurd h List.not_mem_nil) (fun _ _ => Or.inr rfl)
theorem pc_60 : pg_60.all (chk LK_5 cX5_init) = true := by decide +kernel
theorem pk_60 : ∀ q ∈ pg_60, OpOk 60 q.1 q.2 := chk_ok pc_60 LKok_5 rfl rfl (fun q h => absurd h List.not_mem_nil) (fun _ _ => Or.inr rfl)
theorem pc_61 : pg_61.all (chk LK_6 cX6_init) = true := by decide +kernel
theorem pk_61 : ∀ q ∈ pg_61, OpOk 61 q.1 q.2 := chk_ok pc_61 LKok_6 rfl rfl (fun q h => absurd h List.not_mem_nil) (fun _ _ => Or.inr rfl)
theorem pc_62 : pg_62.all (chk LK_6 cX6_note) = true := by decide +kernel
theorem pk_62 : ∀ q ∈ pg_62, OpOk 62 q.1 q.2 := chk_ok pc_62 LKok_6 rfl rfl (fun q h => absurd h List.not_mem_nil) (fun _ _ => Or.inr rfl)
theorem pc_63 : pg_63.all (chk LK_7 cX7_init) = true := by decide +kernel
theorem pk_63 : ∀ q ∈ pg_63, OpOk 63 q.1 q.2 := chk_ok pc_63 LKok_7 rfl rfl (fun q h => absurd h List.not_mem_nil) (fun _ _ => Or.inr rfl)
theorem pc_64 : pg_64.all (chk LK_7 cX7_add) = true := by decide +kernel
theorem pk_64 : ∀ q ∈ pg_64, OpOk 64 q.1 q.2 := chk_ok pc_64 LKok_7 rfl rfl (fun q h => absurd h List.not_mem_nil) (fun _ _ => Or.inr rfl)
theorem pc_65 : pg_65.all (chk LK_7 cX7_takeApart) = true := by decide +kernel
theorem pk_65 : ∀ q ∈ pg_65, OpOk 65 q.1 q.2 := chk_ok pc_65 LKok_7 rfl rfl (fun q h => absurd h List.not_mem_nil) (fun _ _ => Or.inr rfl)
theorem pc_66 : pg_66.all (chk LK_7 cX7_takeOrder) = true := by decide +kernel
theorem pk_66 : ∀ q ∈ pg_66, OpOk 66 q.1 q.2 := chk_ok pc_66 LKok_7 rfl rfl (fun q h => absurd h List.not_mem_nil) (fun _ _ => Or.inr rfl)
theorem pc_67 : pg_67.all (chk LK_7 cX7_takeHours) = true := by decide +kernel
theorem pk_67 : ∀ q ∈ pg_67, OpOk 67 q.1 q.2 := chk_ok pc_67 LKok_7 rfl rfl (fun q h => absurd h List.not_mem_nil) (fun _ _ => Or.inr rfl)
theorem pc_68 : pg_68.all (chk LK_7 cX7_takeComplaint) = true := by decide +kernel
theorem pk_68 : ∀ q ∈ pg_68, OpOk 68 q.1 q.2 := chk_ok pc_68 LKok_7 rfl rfl (fun q h => absurd h List.not_mem_nil) (fun _ _ => Or.inr rfl)
theorem pc_69 : pg_69.all (chk LK_7 cX7_takeSign) = true := by decide +kernel
theorem pk_69 : ∀ q ∈ pg_69, OpOk 69 q.1 q.2 := chk_ok pc_69 LKok_7 rfl rfl (fun q h => absurd h List.not_mem_nil) (fun _ _ => Or.inr rfl)
theorem pc_70 : pg_70.all (chk LK_7 cX7_takeNumber) = true := by decide +kernel
theorem pk_70 : ∀ q ∈ pg_70, OpOk 70 q.1 q.2 := chk_ok pc_70 LKok_7 rfl rfl (fun q h => absurd h List.not_mem_nil) (fun _ _ => Or.inr rfl)
theorem pc_71 : pg_71.all (chk LK_7 cX7_isDigit) = true := by decide +kernel
theorem pk_71 : ∀ q ∈ pg_71, OpOk 71 q.1 q.2 := chk_ok pc_71 LKok_7 rfl rfl (fun q h => absurd h List.not_mem_nil) (fun _ _ => Or.inr rfl)
theorem pc_72 : pg_72.all (chk LK_8 cX8_init) = true := by decide +kernel
theorem pk_72 : ∀ q ∈ pg_72, OpOk 72 q.1 q.2 := chk_ok pc_72 LKok_8 rfl rfl (fun q h => absurd h List.not_mem_nil) (fun _ _ => Or.inr rfl)
theorem pc_73 : pg_73.all (chk LK_8 cX8_inflow) = true := by decide +kernel
theorem pk_73 : ∀ q ∈ pg_73, OpOk 73 q.1 q.2 := chk_ok pc_73 LKok_8 rfl rfl (fun q h => absurd h List.not_mem_nil) (fun _ _ => Or.inr rfl)
theorem pc_74 : pg_74.all (chk LK_8 cX8_fine) = true := by decide +kernel
theorem pk_74 : ∀ q ∈ pg_74, OpOk 74 q.1 q.2 := chk_ok pc_74 LKok_8 rfl rfl (fun q h => absurd h List.not_mem_nil) (fun _ _ => Or.inr rfl)
theorem pc_75 : pg_75.all (chk LK_8 cX8_gate) = true := by decide +kernel
theorem pk_75 : ∀ q ∈ pg_75, OpOk 75 q.1 q.2 := chk_ok pc_75 LKok_8 rfl rfl (fun q h => absurd h List.not_mem_nil) (fun _ _ => Or.inr rfl)
theorem pc_76 : pg_76.all (chk LK_8 cX8_garden) = true := by decide +kernel
theorem pk_76 : ∀ q ∈ pg_76, OpOk 76 q.1 q.2 := chk_ok pc_76 LKok_8 rfl rfl (fun q h => absurd h List.not_mem_nil) (fun _ _ => Or.inr rfl)
theorem pc_77 : pg_77.all (chk LK_8 cX8_open) = true := by decide +kernel
theorem pk_77 : ∀ q ∈ pg_77, OpOk 77 q.1 q.2 := chk_ok pc_77 LKok_8 rfl rfl (fun q h => absurd h List.not_mem_nil) (fun _ _ => Or.inr rfl)
theorem pc_78 : pg_78.all (chk LK_8 cX8_pay) = true := by decide +kernel
theorem pk_78 : ∀ q ∈ pg_78, OpOk 78 q.1 q.2 := chk_ok pc_78 LKok_8 rfl rfl (fun q h => absurd h List.not_mem_nil) (fun _ _ => Or.inr rfl)
theorem pc_79 : pg_79.all (chk LK_8 cX8_thief) = true := by decide +kernel
theorem pk_79 : ∀ q ∈ pg_79, OpOk 79 q.1 q.2 := chk_ok pc_79 LKok_8 rfl rfl (fun q h => absurd h List.not_mem_nil) (fun _ _ => Or.inr rfl)
theorem pc_80 : pg_80.all (chk LK_8 cX8_complain) = true := by decide +kernel
theorem pk_80 : ∀ q ∈ pg_80, OpOk 80 q.1 q.2 := chk_ok pc_80 LKok_8 rfl rfl (fun q h => absurd h List.not_mem_nil) (fun _ _ => Or.inr rfl)
theorem pc_81 : pg_81.all (chk LK_8 cX8_repair) = true := by decide +kernel
theorem pk_81 : ∀ q ∈ pg_81, OpOk 81 q.1 q.2 := chk_ok pc_81 LKok_8 rfl rfl (fun q h => absurd h List.not_mem_nil) (fun _ _ => Or.inr rfl)
theorem pc_82 : pg_82.all (chk LK_8 cX8_pass) = true := by decide +kernel
theorem pk_82 : ∀ q ∈ pg_82, OpOk 82 q.1 q.2 := chk_ok pc_82 LKok_8 rfl rfl (fun q h => absurd h List.not_mem_nil) (fun _ _ => Or.inr rfl)
theorem pc_83 : pg_83.all (chk LK_8 cX8_gateOf) = true := by decide +kernel
theorem pk_83 : ∀ q ∈ pg_83, OpOk 83 q.1 q.2 := chk_ok pc_83 LKok_8 rfl rfl (fun q h => absurd h List.not_mem_nil) (fun _ _ => Or.inr rfl)
theorem pc_84 : pg_84.all (chk LK_8 cX8_nextOpen) = true := by decide +kernel
theorem pk_84 : ∀ q ∈ pg_84, OpOk 84 q.1 q.2 := chk_ok pc_84 LKok_8 rfl rfl (fun q h => absurd h List.not_mem_nil) (fun _ _ => Or.inr rfl)
theorem pc_85 : pg_85.all (chk LK_8 cX8_gardenOf) = true := by decide +kernel
theorem pk_85 : ∀ q ∈ pg_85, OpOk 85 q.1 q.2 := chk_ok pc_85 LKok_8 rfl rfl (fun q h => absurd h List.not_mem_nil) (fun _ _ => Or.inr rfl)
theorem pc_86 : pg_86.all (chk LK_8 cX8_thirsty) = true := by decide +kernel
theorem pk_86 : ∀ q ∈ pg_86, OpOk 86 q.1 q.2 := chk_ok pc_86 LKok_8 rfl rfl (fun q h => absurd h List.not_mem_nil) (fun _ _ => Or.inr rfl)
theorem pc_87 : pg_87.all (chk LK_8 cX8_placeAgain) = true := by decide +kernel
theorem pk_87 : ∀ q ∈ pg_87, OpOk 87 q.1 q.2 := chk_ok pc_87 LKok_8 rfl rfl (fun q h => absurd h List.not_mem_nil) (fun _ _ => Or.inr rfl)
theorem pc_88 : pg_88.all (chk LK_8 cX8_complaint) = true := by decide +kernel
theorem pk_88 : ∀ q ∈ pg_88, OpOk 88 q.1 q.2 := chk_ok pc_88 LKok_8 rfl rfl (fun q h => absurd h List.not_mem_nil) (fun _ _ => Or.inr rfl)
theorem pc_89 : pg_89.all (chk LK_8 cX8_sign) = true := by decide +kernel
theorem pk_89 : ∀ q ∈ pg_89, OpOk 89 q.1 q.2 := chk_ok pc_89 LKok_8 rfl rfl (fun q h => absurd h List.not_mem_nil) (fun _ _ => Or.inr rfl)
theorem pc_90 : pg_90.all (chk LK_8 cX8_part) = true := by decide +kernel
theorem pk_90 : ∀ q ∈ pg_90, OpOk 90 q.1 q.2 := chk_ok pc_90 LKok_8 rfl rfl (fun q h => absurd h List.not_mem_nil) (fun _ _ => Or.inr rfl)
theorem pc_91 : pg_91.all (chk LK_8 cX8_ahead) = true := by decide +kernel
theorem pk_91 : ∀ q ∈ pg_91, OpOk 91 q.1 q.2 := chk_ok pc_91 LKok_8 rfl rfl (fun q h => absurd h List.not_mem_nil) (fun _ _ => Or.inr rfl)
theorem pc_92 : pg_92.all (chk LK_8 cX8_dryIn) = true := by decide +kernel
theorem pk_92 : ∀ q ∈ pg_92, OpOk 92 q.1 q.2 := chk_ok pc_92 LKok_8 rfl rfl (fun q h => absurd h List.not_mem_nil) (fun _ _ => Or.inr rfl)
theorem pc_93 : pg_93.all (chk LK_8 cX8_bestHour) = true := by decide +kernel
theorem pk_93 : ∀ q ∈ pg_93, OpOk 93 q.1 q.2 := chk_ok pc_93 LKok_8 rfl rfl (fun q h => absurd h List.not_mem_nil) (fun _ _ => Or.inr rfl)
theorem pc_94 : pg_94.all (chk LK_8 cX8_append) = true := by decide +kernel
theorem pk_94 : ∀ q ∈ pg_94, OpOk 94 q.1 q.2 := chk_ok pc_94 LKok_8 rfl rfl (fun q h => absurd h List.not_mem_nil) (fun _ _ => Or.inr rfl)
theorem pc_95 : pg_95.all (chk LK_8 cX8_read) = true := by decide +kernel
theorem pk_95 : ∀ q ∈ pg_95, OpOk 95 q.1 q.2 := chk_ok pc_95 LKok_8 rfl rfl (fun q h => absurd h List.not_mem_nil) (fun _ _ => Or.inr rfl)
theorem pc_96 : pg_96.all (chk LK_8 cX8_errorPosition) = true := by decide +kernel
theorem pk_96 : ∀ q ∈ pg_96, OpOk 96 q.1 q.2 := chk_ok pc_96 LKok_8 rfl rfl (fun q h => absurd h List.not_mem_nil) (fun _ _ => Or.inr rfl)
theorem pc_97 : pg_97.all (chk LK_8 cX8_refusal) = true := by decide +kernel
theorem pk_97 : ∀ q ∈ pg_97, OpOk 97 q.1 q.2 := chk_ok pc_97 LKok_8 rfl rfl (fun q h => absurd h List.not_mem_nil) (fun _ _ => Or.inr rfl)
theorem pc_98 : pg_98.all (chk LK_8 cX8_account) = true := by decide +kernel
theorem pk_98 : ∀ q ∈ pg_98, OpOk 98 q.1 q.2 := chk_ok pc_98 LKok_8 rfl rfl (fun q h => absurd h List.not_mem_nil) (fun _ _ => Or.inr rfl)
theorem pc_99 : pg_99.all (chk LK_8 cX8_isWell) = true := by decide +kernel
theorem pk_99 : ∀ q ∈ pg_99, OpOk 99 q.1 q.2 := chk_ok pc_99 LKok_8 rfl rfl (fun q h => absurd h List.not_mem_nil) (fun _ _ => Or.inr rfl)
theorem pc_100 : pg_100.all (chk LK_8 cX8_share) = true := by decide +kernel
theorem pk_100 : ∀ q ∈ pg_100, OpOk 100 q.1 q.2 := chk_ok pc_100 LKok_8 rfl rfl (fun q h => absurd h List.not_mem_nil) (fun _ _ => Or.inr rfl)
theorem pc_101 : pg_101.all (chk LK_8 cX8_meanThirst) = true := by decide +kernel
theorem pk_101 : ∀ q ∈ pg_101, OpOk 101 q.1 q.2 := chk_ok pc_101 LKok_8 rfl rfl (fun q h => absurd h List.not_mem_nil) (fun _ _ => Or.inr rfl)
theorem pc_102 : pg_102.all (chk LK_8 cX8_undo) = true := by decide +kernel
theorem pk_102 : ∀ q ∈ pg_102, OpOk 102 q.1 q.2 := chk_ok pc_102 LKok_8 rfl rfl (fun q h => absurd h List.not_mem_nil) (fun _ _ => Or.inr rfl)
theorem pc_103 : pg_103.all (chk LK_8 cX8_save) = true := by decide +kernel
theorem pk_103 : ∀ q ∈ pg_103, OpOk 103 q.1 q.2 := chk_ok pc_103 LKok_8 rfl rfl (fun q h => absurd h List.not_mem_nil) (fun _ _ => Or.inr rfl)
theorem pc_104 : pg_104.all (chk LK_8 cX8_restore) = true := by decide +kernel
theorem pk_104 : ∀ q ∈ pg_104, OpOk 104 q.1 q.2 := chk_ok pc_104 LKok_8 rfl rfl (fun q h => absurd h List.not_mem_nil) (fun _ _ => Or.inr rfl)
theorem pc_105 : pg_105.all (chk LK_8 cX8_isWithin) = true := by decide +kernel
theorem pk_105 : ∀ q ∈ pg_105, OpOk 105 q.1 q.2 := chk_ok pc_105 LKok_8 rfl rfl (fun q h => absurd h List.not_mem_nil) (fun _ _ => Or.inr rfl)
theorem pc_106 : pg_106.all (chk LK_8 cX8_isInflow) = true := by decide +kernel
theorem pk_106 : ∀ q ∈ pg_106, OpOk 106 q.1 q.2 := chk_ok pc_106 LKok_8 rfl rfl (fun q h => absurd h List.not_mem_nil) (fun _ _ => Or.inr rfl)
theorem pc_107 : pg_107.all (chk LK_8 cX8_isSpan) = true := by decide +kernel
theorem pk_107 : ∀ q ∈ pg_107, OpOk 107 q.1 q.2 := chk_ok pc_107 LKok_8 rfl rfl (fun q h => absurd h List.not_mem_nil) (fun _ _ => Or.inr rfl)
theorem pc_108 : pg_108.all (chk LK_8 cX8_areHoursOfWeek) = true := by decide +kernel
theorem pk_108 : ∀ q ∈ pg_108, OpOk 108 q.1 q.2 := chk_ok pc_108 LKok_8 rfl rfl (fun q h => absurd h List.not_mem_nil) (fun _ _ => Or.inr rfl)
theorem pc_109 : pg_109.all (chk LK_9 cX9_init) = true := by decide +kernel
theorem pk_109 : ∀ q ∈ pg_109, OpOk 109 q.1 q.2 := chk_ok pc_109 LKok_9 rfl rfl (fun q h => absurd h List.not_mem_nil) (fun _ _ => Or.inr rfl)
theorem pc_110 : pg_110.all (chk LK_9 cX9_thrown) = true := by decide +kernel
theorem pk_110 : ∀ q ∈ pg_110, OpOk 110 q.1 q.2 := chk_ok pc_110 LKok_9 rfl rfl (fun q h => absurd h List.not_mem_nil) (fun _ _ => Or.inr rfl)
theorem pc_111 : pg_111.all (chk LK_9 cX9_fails) = true := by decide +kernel
theorem pk_111 : ∀ q ∈ pg_111, OpOk 111 q.1 q.2 := chk_ok pc_111 LKok_9 rfl rfl (fun q h => absurd h List.not_mem_nil) (fun _ _ => Or.inr rfl)
theorem pc_112 : pg_112.all (chk LK_9 cX9_refuses) = true := by decide +kernel
theorem pk_112 : ∀ q ∈ pg_112, OpOk 112 q.1 q.2 := chk_ok pc_112 LKok_9 rfl rfl (fun q h => absurd h List.not_mem_nil) (fun _ _ => Or.inr rfl)
theorem pc_113 : pg_113.all (chk LK_9 cX9_in) = true := by decide +kernel
theorem pk_113 : ∀ q ∈ pg_113, OpOk 113 q.1 q.2 := chk_ok pc_113 LKok_9 rfl rfl (fun q h => absurd h List.not_mem_nil) (fun _ _ => Or.inr rfl)
theorem pc_114 : pg_114.all (chk LK_9 cX9_less) = true := by decide +kernel
theorem pk_114 : ∀ q ∈ pg_114, OpOk 114 q.1 q.2 := chk_ok pc_114 LKok_9 rfl rfl (fun q h => absurd h List.not_mem_nil) (fun _ _ => Or.inr rfl)
theorem pc_115 : pg_115.all (chk LK_9 cX9_up) = true := by decide +kernel
theorem pk_115 : ∀ q ∈ pg_115, OpOk 115 q.1 q.2 := chk_ok pc_115 LKok_9 rfl rfl (fun q h => absurd h List.not_mem_nil) (fun _ _ => Or.inr rfl)
theorem pc_116 : pg_116.all (chk LK_9 cX9_copies) = true := by decide +kernel
theorem pk_116 : ∀ q ∈ pg_116, OpOk 116 q.1 q.2 := chk_ok pc_116 LKok_9 rfl rfl (fun q h => absurd h List.not_mem_nil) (fun _ _ => Or.inr rfl)
theorem pc_117 : pg_117.all (chk LK_9 cX9_keeps) = true := by decide +kernel
theorem pk_117 : ∀ q ∈ pg_117, OpOk 117 q.1 q.2 := chk_ok pc_117 LKok_9 rfl rfl (fun q h => absurd h List.not_mem_nil) (fun _ _ => Or.inr rfl)
theorem pc_118 : pg_118.all (chk LK_9 cX9_isGate) = true := by decide +kernel
theorem pk_118 : ∀ q ∈ pg_118, OpOk 118 q.1 q.2 := chk_ok pc_118 LKok_9 rfl rfl (fun q h => absurd h List.not_mem_nil) (fun _ _ => Or.inr rfl)
theorem pc_119 : pg_119.all (chk LK_9 cX9_isGarden) = true := by decide +kernel
theorem pk_119 : ∀ q ∈ pg_119, OpOk 119 q.1 q.2 := chk_ok pc_119 LKok_9 rfl rfl (fun q h => absurd h List.not_mem_nil) (fun _ _ => Or.inr rfl)
theorem pc_120 : pg_120.all (chk LK_9 cX9_ofGate) = true := by decide +kernel
theorem pk_120 : ∀ q ∈ pg_120, OpOk 120 q.1 q.2 := chk_ok pc_120 LKok_9 rfl rfl (fun q h => absurd h List.not_mem_nil) (fun _ _ => Or.inr rfl)
theorem pc_121 : pg_121.all (chk LK_9 cX9_adds) = true := by decide +kernel
theorem pk_121 : ∀ q ∈ pg_121, OpOk 121 q.1 q.2 := chk_ok pc_121 LKok_9 rfl rfl (fun q h => absurd h List.not_mem_nil) (fun _ _ => Or.inr rfl)
theorem pc_122 : pg_122.all (chk LK_9 cX9_ofGarden) = true := by decide +kernel
theorem pk_122 : ∀ q ∈ pg_122, OpOk 122 q.1 q.2 := chk_ok pc_122 LKok_9 rfl rfl (fun q h => absurd h List.not_mem_nil) (fun _ _ => Or.inr rfl)
theorem pc_123 : pg_123.all (chk LK_9 cX9_lays) = true := by decide +kernel
theorem pk_123 : ∀ q ∈ pg_123, OpOk 123 q.1 q.2 := chk_ok pc_123 LKok_9 rfl rfl (fun q h => absurd h List.not_mem_nil) (fun _ _ => Or.inr rfl)
theorem pc_124 : pg_124.all (chk LK_9 cX9_inflow) = true := by decide +kernel
theorem pk_124 : ∀ q ∈ pg_124, OpOk 124 q.1 q.2 := chk_ok pc_124 LKok_9 rfl rfl (fun q h => absurd h List.not_mem_nil) (fun _ _ => Or.inr rfl)
theorem pc_125 : pg_125.all (chk LK_9 cX9_fine) = true := by decide +kernel
theorem pk_125 : ∀ q ∈ pg_125, OpOk 125 q.1 q.2 := chk_ok pc_125 LKok_9 rfl rfl (fun q h => absurd h List.not_mem_nil) (fun _ _ => Or.inr rfl)
theorem pc_126 : pg_126.all (chk LK_9 cX9_gate) = true := by decide +kernel
theorem pk_126 : ∀ q ∈ pg_126, OpOk 126 q.1 q.2 := chk_ok pc_126 LKok_9 rfl rfl (fun q h => absurd h List.not_mem_nil) (fun _ _ => Or.inr rfl)
theorem pc_127 : pg_127.all (chk LK_9 cX9_garden) = true := by decide +kernel
theorem pk_127 : ∀ q ∈ pg_127, OpOk 127 q.1 q.2 := chk_ok pc_127 LKok_9 rfl rfl (fun q h => absurd h List.not_mem_nil) (fun _ _ => Or.inr rfl)
theorem pc_128 : pg_128.all (chk LK_9 cX9_isOpenIn) = true := by decide +kernel
theorem pk_128 : ∀ q ∈ pg_128, OpOk 128 q.1 q.2 := chk_ok pc_128 LKok_9 rfl rfl (fun q h => absurd h List.not_mem_nil) (fun _ _ => Or.inr rfl)
theorem pc_129 : pg_129.all (chk LK_9 cX9_opens) = true := by decide +kernel
theorem pk_129 : ∀ q ∈ pg_129, OpOk 129 q.1 q.2 := chk_ok pc_129 LKok_9 rfl rfl (fun q h => absurd h List.not_mem_nil) (fun _ _ => Or.inr rfl)
theorem pc_130 : pg_130.all (chk LK_9 cX9_openHours) = true := by decide +kernel
theorem pk_130 : ∀ q ∈ pg_130, OpOk 130 q.1 q.2 := chk_ok pc_130 LKok_9 rfl rfl (fun q h => absurd h List.not_mem_nil) (fun _ _ => Or.inr rfl)
theorem pc_131 : pg_131.all (chk LK_9 cX9_open) = true := by decide +kernel
theorem pk_131 : ∀ q ∈ pg_131, OpOk 131 q.1 q.2 := chk_ok pc_131 LKok_9 rfl rfl (fun q h => absurd h List.not_mem_nil) (fun _ _ => Or.inr rfl)
theorem pc_132 : pg_132.all (chk LK_9 cX9_pay) = true := by decide +kernel
theorem pk_132 : ∀ q ∈ pg_132, OpOk 132 q.1 q.2 := chk_ok pc_132 LKok_9 rfl rfl (fun q h => absurd h List.not_mem_nil) (fun _ _ => Or.inr rfl)
theorem pc_133 : pg_133.all (chk LK_9 cX9_thief) = true := by decide +kernel
theorem pk_133 : ∀ q ∈ pg_133, OpOk 133 q.1 q.2 := chk_ok pc_133 LKok_9 rfl rfl (fun q h => absurd h List.not_mem_nil) (fun _ _ => Or.inr rfl)
theorem pc_134 : pg_134.all (chk LK_9 cX9_placeOf) = true := by decide +kernel
theorem pk_134 : ∀ q ∈ pg_134, OpOk 134 q.1 q.2 := chk_ok pc_134 LKok_9 rfl rfl (fun q h => absurd h List.not_mem_nil) (fun _ _ => Or.inr rfl)
theorem pc_135 : pg_135.all (chk LK_9 cX9_complain) = true := by decide +kernel
theorem pk_135 : ∀ q ∈ pg_135, OpOk 135 q.1 q.2 := chk_ok pc_135 LKok_9 rfl rfl (fun q h => absurd h List.not_mem_nil) (fun _ _ => Or.inr rfl)
theorem pc_136 : pg_136.all (chk LK_9 cX9_sharesFrom) = true := by decide +kernel
theorem pk_136 : ∀ q ∈ pg_136, OpOk 136 q.1 q.2 := chk_ok pc_136 LKok_9 rfl rfl (fun q h => absurd h List.not_mem_nil) (fun _ _ => Or.inr rfl)
theorem pc_137 : pg_137.all (chk LK_9 cX9_costOf) = true := by decide +kernel
theorem pk_137 : ∀ q ∈ pg_137, OpOk 137 q.1 q.2 := chk_ok pc_137 LKok_9 rfl rfl (fun q h => absurd h List.not_mem_nil) (fun _ _ => Or.inr rfl)
theorem pc_138 : pg_138.all (chk LK_9 cX9_partOf) = true := by decide +kernel
theorem pk_138 : ∀ q ∈ pg_138, OpOk 138 q.1 q.2 := chk_ok pc_138 LKok_9 rfl rfl (fun q h => absurd h List.not_mem_nil) (fun _ _ => Or.inr rfl)
theorem pc_139 : pg_139.all (chk LK_9 cX9_paysFor) = true := by decide +kernel
theorem pk_139 : ∀ q ∈ pg_139, OpOk 139 q.1 q.2 := chk_ok pc_139 LKok_9 rfl rfl (fun q h => absurd h List.not_mem_nil) (fun _ _ => Or.inr rfl)
theorem pc_140_0 : ((pg_140.drop 0).take 80).all (chk LK_9 cX9_repair) = true := by decide +kernel
theorem pd_140_1 : (pg_140.drop 80).all (chk LK_9 cX9_repair) = true := by decide +kernel
theorem pd_140_0 : (pg_140.drop 0).all (chk LK_9 cX9_repair) = true := all_tk (i := 0) (n := 80) pc_140_0 pd_140_1
theorem pc_140 : pg_140.all (chk LK_9 cX9_repair) = true := all_0 pd_140_0
theorem pk_140 : ∀ q ∈ pg_140, OpOk 140 q.1 q.2 := chk_ok pc_140 LKok_9 rfl rfl (fun q h => absurd h List.not_mem_nil) (fun _ _ => Or.inr rfl)
theorem pc_141 : pg_141.all (chk LK_9 cX9_isAhead) = true := by decide +kernel
theorem pk_141 : ∀ q ∈ pg_141, OpOk 141 q.1 q.2 := chk_ok pc_141 LKok_9 rfl rfl (fun q h => absurd h List.not_mem_nil) (fun _ _ => Or.inr rfl)
theorem pc_142 : pg_142.all (chk LK_9 cX9_orders) = true := by decide +kernel
theorem pk_142 : ∀ q ∈ pg_142, OpOk 142 q.1 q.2 := chk_ok pc_142 LKok_9 rfl rfl (fun q h => absurd h List.not_mem_nil) (fun _ _ => Or.inr rfl)
theorem pc_143 : pg_143.all (chk LK_9 cX9_drinks) = true := by decide +kernel
theorem pk_143 : ∀ q ∈ pg_143, OpOk 143 q.1 q.2 := chk_ok pc_143 LKok_9 rfl rfl (fun q h => absurd h List.not_mem_nil) (fun _ _ => Or.inr rfl)
theorem pc_144 : pg_144.all (chk LK_9 cX9_waters) = true := by decide +kernel
theorem pk_144 : ∀ q ∈ pg_144, OpOk 144 q.1 q.2 := chk_ok pc_144 LKok_9 rfl rfl (fun q h => absurd h List.not_mem_nil) (fun _ _ => Or.inr rfl)
theorem pc_145 : pg_145.all (chk LK_9 cX9_goesDown) = true := by decide +kernel
theorem pk_145 : ∀ q ∈ pg_145, OpOk 145 q.1 q.2 := chk_ok pc_145 LKok_9 rfl rfl (fun q h => absurd h List.not_mem_nil) (fun _ _ => Or.inr rfl)
theorem pc_146 : pg_146.all (chk LK_9 cX9_thieves) = true := by decide +kernel
theorem pk_146 : ∀ q ∈ pg_146, OpOk 146 q.1 q.2 := chk_ok pc_146 LKok_9 rfl rfl (fun q h => absurd h List.not_mem_nil) (fun _ _ => Or.inr rfl)
theorem pc_147 : pg_147.all (chk LK_9 cX9_isGuilty) = true := by decide +kernel
theorem pk_147 : ∀ q ∈ pg_147, OpOk 147 q.1 q.2 := chk_ok pc_147 LKok_9 rfl rfl (fun q h => absurd h List.not_mem_nil) (fun _ _ => Or.inr rfl)
theorem pc_148 : pg_148.all (chk LK_9 cX9_hears) = true := by decide +kernel
theorem pk_148 : ∀ q ∈ pg_148, OpOk 148 q.1 q.2 := chk_ok pc_148 LKok_9 rfl rfl (fun q h => absurd h List.not_mem_nil) (fun _ _ => Or.inr rfl)
theorem pc_149 : pg_149.all (chk LK_9 cX9_hearsAll) = true := by decide +kernel
theorem pk_149 : ∀ q ∈ pg_149, OpOk 149 q.1 q.2 := chk_ok pc_149 LKok_9 rfl rfl (fun q h => absurd h List.not_mem_nil) (fun _ _ => Or.inr rfl)
theorem pc_150_0 : ((pg_150.drop 0).take 80).all (chk LK_9 cX9_goesBy) = true := by decide +kernel
theorem pd_150_1 : (pg_150.drop 80).all (chk LK_9 cX9_goesBy) = true := by decide +kernel
theorem pd_150_0 : (pg_150.drop 0).all (chk LK_9 cX9_goesBy) = true := all_tk (i := 0) (n := 80) pc_150_0 pd_150_1
theorem pc_150 : pg_150.all (chk LK_9 cX9_goesBy) = true := all_0 pd_150_0
theorem pk_150 : ∀ q ∈ pg_150, OpOk 150 q.1 q.2 := chk_ok pc_150 LKok_9 rfl rfl (fun q h => absurd h List.not_mem_nil) (fun _ _ => Or.inr rfl)
theorem pc_151 : pg_151.all (chk LK_9 cX9_pass) = true := by decide +kernel
theorem pk_151 : ∀ q ∈ pg_151, OpOk 151 q.1 q.2 := chk_ok pc_151 LKok_9 rfl rfl (fun q h => absurd h List.not_mem_nil) (fun _ _ => Or.inr rfl)
theorem pc_152 : pg_152.all (chk LK_9 cX9_gardensAt) = true := by decide +kernel
theorem pk_152 : ∀ q ∈ pg_152, OpOk 152 q.1 q.2 := chk_ok pc_152 LKok_9 rfl rfl (fun q h => absurd h List.not_mem_nil) (fun _ _ => Or.inr rfl)
theorem pc_153 : pg_153.all (chk LK_9 cX9_gateOf) = true := by decide +kernel
theorem pk_153 : ∀ q ∈ pg_153, OpOk 153 q.1 q.2 := chk_ok pc_153 LKok_9 rfl rfl (fun q h => absurd h List.not_mem_nil) (fun _ _ => Or.inr rfl)
theorem pc_154 : pg_154.all (chk LK_9 cX9_nextOpen) = true := by decide +kernel
theorem pk_154 : ∀ q ∈ pg_154, OpOk 154 q.1 q.2 := chk_ok pc_154 LKok_9 rfl rfl (fun q h => absurd h List.not_mem_nil) (fun _ _ => Or.inr rfl)
theorem pc_155 : pg_155.all (chk LK_9 cX9_gardenOf) = true := by decide +kernel
theorem pk_155 : ∀ q ∈ pg_155, OpOk 155 q.1 q.2 := chk_ok pc_155 LKok_9 rfl rfl (fun q h => absurd h List.not_mem_nil) (fun _ _ => Or.inr rfl)
theorem pc_156 : pg_156.all (chk LK_9 cX9_thirsty) = true := by decide +kernel
theorem pk_156 : ∀ q ∈ pg_156, OpOk 156 q.1 q.2 := chk_ok pc_156 LKok_9 rfl rfl (fun q h => absurd h List.not_mem_nil) (fun _ _ => Or.inr rfl)
theorem pc_157 : pg_157.all (chk LK_9 cX9_placeAgain) = true := by decide +kernel
theorem pk_157 : ∀ q ∈ pg_157, OpOk 157 q.1 q.2 := chk_ok pc_157 LKok_9 rfl rfl (fun q h => absurd h List.not_mem_nil) (fun _ _ => Or.inr rfl)
theorem pc_158 : pg_158.all (chk LK_9 cX9_complaint) = true := by decide +kernel
theorem pk_158 : ∀ q ∈ pg_158, OpOk 158 q.1 q.2 := chk_ok pc_158 LKok_9 rfl rfl (fun q h => absurd h List.not_mem_nil) (fun _ _ => Or.inr rfl)
theorem pc_159 : pg_159.all (chk LK_9 cX9_sign) = true := by decide +kernel
theorem pk_159 : ∀ q ∈ pg_159, OpOk 159 q.1 q.2 := chk_ok pc_159 LKok_9 rfl rfl (fun q h => absurd h List.not_mem_nil) (fun _ _ => Or.inr rfl)
theorem pc_160 : pg_160.all (chk LK_9 cX9_part) = true := by decide +kernel
theorem pk_160 : ∀ q ∈ pg_160, OpOk 160 q.1 q.2 := chk_ok pc_160 LKok_9 rfl rfl (fun q h => absurd h List.not_mem_nil) (fun _ _ => Or.inr rfl)
theorem pc_161 : pg_161.all (chk LK_9 cX9_takesIn) = true := by decide +kernel
theorem pk_161 : ∀ q ∈ pg_161, OpOk 161 q.1 q.2 := chk_ok pc_161 LKok_9 rfl rfl (fun q h => absurd h List.not_mem_nil) (fun _ _ => Or.inr rfl)
theorem pc_162 : pg_162.all (chk LK_9 cX9_ahead) = true := by decide +kernel
theorem pk_162 : ∀ q ∈ pg_162, OpOk 162 q.1 q.2 := chk_ok pc_162 LKok_9 rfl rfl (fun q h => absurd h List.not_mem_nil) (fun _ _ => Or.inr rfl)
theorem pc_163 : pg_163.all (chk LK_9 cX9_isAnyDry) = true := by decide +kernel
theorem pk_163 : ∀ q ∈ pg_163, OpOk 163 q.1 q.2 := chk_ok pc_163 LKok_9 rfl rfl (fun q h => absurd h List.not_mem_nil) (fun _ _ => Or.inr rfl)
theorem pc_164 : pg_164.all (chk LK_9 cX9_dryIn) = true := by decide +kernel
theorem pk_164 : ∀ q ∈ pg_164, OpOk 164 q.1 q.2 := chk_ok pc_164 LKok_9 rfl rfl (fun q h => absurd h List.not_mem_nil) (fun _ _ => Or.inr rfl)
theorem pc_165 : pg_165.all (chk LK_9 cX9_bestHour) = true := by decide +kernel
theorem pk_165 : ∀ q ∈ pg_165, OpOk 165 q.1 q.2 := chk_ok pc_165 LKok_9 rfl rfl (fun q h => absurd h List.not_mem_nil) (fun _ _ => Or.inr rfl)
theorem pc_166 : pg_166.all (chk LK_9 cX9_append) = true := by decide +kernel
theorem pk_166 : ∀ q ∈ pg_166, OpOk 166 q.1 q.2 := chk_ok pc_166 LKok_9 rfl rfl (fun q h => absurd h List.not_mem_nil) (fun _ _ => Or.inr rfl)
theorem pc_167 : pg_167.all (chk LK_9 cX9_here) = true := by decide +kernel
theorem pk_167 : ∀ q ∈ pg_167, OpOk 167 q.1 q.2 := chk_ok pc_167 LKok_9 rfl rfl (fun q h => absurd h List.not_mem_nil) (fun _ _ => Or.inr rfl)
theorem pc_168 : pg_168.all (chk LK_9 cX9_skips) = true := by decide +kernel
theorem pk_168 : ∀ q ∈ pg_168, OpOk 168 q.1 q.2 := chk_ok pc_168 LKok_9 rfl rfl (fun q h => absurd h List.not_mem_nil) (fun _ _ => Or.inr rfl)
theorem pc_169 : pg_169.all (chk LK_9 cX9_number) = true := by decide +kernel
theorem pk_169 : ∀ q ∈ pg_169, OpOk 169 q.1 q.2 := chk_ok pc_169 LKok_9 rfl rfl (fun q h => absurd h List.not_mem_nil) (fun _ _ => Or.inr rfl)
theorem pc_170 : pg_170.all (chk LK_9 cX9_orderHere) = true := by decide +kernel
theorem pk_170 : ∀ q ∈ pg_170, OpOk 170 q.1 q.2 := chk_ok pc_170 LKok_9 rfl rfl (fun q h => absurd h List.not_mem_nil) (fun _ _ => Or.inr rfl)
theorem pc_171 : pg_171.all (chk LK_9 cX9_isText) = true := by decide +kernel
theorem pk_171 : ∀ q ∈ pg_171, OpOk 171 q.1 q.2 := chk_ok pc_171 LKok_9 rfl rfl (fun q h => absurd h List.not_mem_nil) (fun _ _ => Or.inr rfl)
theorem pc_172 : pg_172.all (chk LK_9 cX9_carries) = true := by decide +kernel
theorem pk_172 : ∀ q ∈ pg_172, OpOk 172 q.1 q.2 := chk_ok pc_172 LKok_9 rfl rfl (fun q h => absurd h List.not_mem_nil) (fun _ _ => Or.inr rfl)
theorem pc_173 : pg_173.all (chk LK_9 cX9_read) = true := by decide +kernel
theorem pk_173 : ∀ q ∈ pg_173, OpOk 173 q.1 q.2 := chk_ok pc_173 LKok_9 rfl rfl (fun q h => absurd h List.not_mem_nil) (fun _ _ => Or.inr rfl)
theorem pc_174 : pg_174.all (chk LK_9 cX9_errorPosition) = true := by decide +kernel
theorem pk_174 : ∀ q ∈ pg_174, OpOk 174 q.1 q.2 := chk_ok pc_174 LKok_9 rfl rfl (fun q h => absurd h List.not_mem_nil) (fun _ _ => Or.inr rfl)
theorem pc_175 : pg_175.all (chk LK_9 cX9_refusal) = true := by decide +kernel
theorem pk_175 : ∀ q ∈ pg_175, OpOk 175 q.1 q.2 := chk_ok pc_175 LKok_9 rfl rfl (fun q h => absurd h List.not_mem_nil) (fun _ _ => Or.inr rfl)
theorem pc_176 : pg_176.all (chk LK_9 cX9_sumOf) = true := by decide +kernel
theorem pk_176 : ∀ q ∈ pg_176, OpOk 176 q.1 q.2 := chk_ok pc_176 LKok_9 rfl rfl (fun q h => absurd h List.not_mem_nil) (fun _ _ => Or.inr rfl)
theorem pc_177 : pg_177.all (chk LK_9 cX9_account) = true := by decide +kernel
theorem pk_177 : ∀ q ∈ pg_177, OpOk 177 q.1 q.2 := chk_ok pc_177 LKok_9 rfl rfl (fun q h => absurd h List.not_mem_nil) (fun _ _ => Or.inr rfl)
theorem pc_178 : pg_178.all (chk LK_9 cX9_isGateWell) = true := by decide +kernel
theorem pk_178 : ∀ q ∈ pg_178, OpOk 178 q.1 q.2 := chk_ok pc_178 LKok_9 rfl rfl (fun q h => absurd h List.not_mem_nil) (fun _ _ => Or.inr rfl)
theorem pc_179 : pg_179.all (chk LK_9 cX9_isWell) = true := by decide +kernel
theorem pk_179 : ∀ q ∈ pg_179, OpOk 179 q.1 q.2 := chk_ok pc_179 LKok_9 rfl rfl (fun q h => absurd h List.not_mem_nil) (fun _ _ => Or.inr rfl)
theorem pc_180 : pg_180.all (chk LK_9 cX9_share) = true := by decide +kernel
theorem pk_180 : ∀ q ∈ pg_180, OpOk 180 q.1 q.2 := chk_ok pc_180 LKok_9 rfl rfl (fun q h => absurd h List.not_mem_nil) (fun _ _ => Or.inr rfl)
theorem pc_181 : pg_181.all (chk LK_9 cX9_meanThirst) = true := by decide +kernel
theorem pk_181 : ∀ q ∈ pg_181, OpOk 181 q.1 q.2 := chk_ok pc_181 LKok_9 rfl rfl (fun q h => absurd h List.not_mem_nil) (fun _ _ => Or.inr rfl)
theorem pc_182 : pg_182.all (chk LK_9 cX9_undo) = true := by decide +kernel
theorem pk_182 : ∀ q ∈ pg_182, OpOk 182 q.1 q.2 := chk_ok pc_182 LKok_9 rfl rfl (fun q h => absurd h List.not_mem_nil) (fun _ _ => Or.inr rfl)
theorem pc_183 : pg_183.all (chk LK_9 cX9_save) = true := by decide +kernel
theorem pk_183 : ∀ q ∈ pg_183, OpOk 183 q.1 q.2 := chk_ok pc_183 LKok_9 rfl rfl (fun q h => absurd h List.not_mem_nil) (fun _ _ => Or.inr rfl)
theorem pc_184 : pg_184.all (chk LK_9 cX9_restore) = true := by decide +kernel
theorem pk_184 : ∀ q ∈ pg_184, OpOk 184 q.1 q.2 := chk_ok pc_184 LKok_9 rfl rfl (fun q h => absurd h List.not_mem_nil) (fun _ _ => Or.inr rfl)
theorem pc_185 : pg_185.all (chk LK_10 cL_inflow) = true := by decide +kernel
theorem pk_185 : ∀ q ∈ pg_185, OpOk 185 q.1 q.2 := chk_ok pc_185 LKok_10 rfl rfl (List.forall_mem_cons.mpr ⟨⟨by decide, by decide, List.mem_filter.mpr ⟨List.mem_of_getElem? (i := 414) (by decide +kernel), by decide +kernel⟩⟩, fun _ h => absurd h List.not_mem_nil⟩) (fun q hq => Or.inl ((show ∀ q ∈ pg_185, (∀ i, q.2.1 ≠ .invokestatic i) ∧ (∀ i, q.2.1 ≠ .invokespecial i) from by simp [pg_185]) q hq))
theorem pc_186 : pg_186.all (chk LK_10 cL_fine) = true := by decide +kernel
theorem pk_186 : ∀ q ∈ pg_186, OpOk 186 q.1 q.2 := chk_ok pc_186 LKok_10 rfl rfl (List.forall_mem_cons.mpr ⟨⟨by decide, by decide, List.mem_filter.mpr ⟨List.mem_of_getElem? (i := 414) (by decide +kernel), by decide +kernel⟩⟩, fun _ h => absurd h List.not_mem_nil⟩) (fun q hq => Or.inl ((show ∀ q ∈ pg_186, (∀ i, q.2.1 ≠ .invokestatic i) ∧ (∀ i, q.2.1 ≠ .invokespecial i) from by simp [pg_186]) q hq))
theorem pc_187 : pg_187.all (chk LK_10 cL_gate) = true := by decide +kernel
theorem pk_187 : ∀ q ∈ pg_187, OpOk 187 q.1 q.2 := chk_ok pc_187 LKok_10 rfl rfl (List.forall_mem_cons.mpr ⟨⟨by decide, by decide, List.mem_filter.mpr ⟨List.mem_of_getElem? (i := 414) (by decide +kernel), by decide +kernel⟩⟩, List.forall_mem_cons.mpr ⟨⟨by decide, by decide, List.mem_filter.mpr ⟨List.mem_of_getElem? (i := 516) (by decide +kernel), by decide +kernel⟩⟩, fun _ h => absurd h List.not_mem_nil⟩⟩) (fun q hq => Or.inl ((show ∀ q ∈ pg_187, (∀ i, q.2.1 ≠ .invokestatic i) ∧ (∀ i, q.2.1 ≠ .invokespecial i) from by simp [pg_187]) q hq))
theorem pc_188 : pg_188.all (chk LK_10 cL_garden) = true := by decide +kernel
theorem pk_188 : ∀ q ∈ pg_188, OpOk 188 q.1 q.2 := chk_ok pc_188 LKok_10 rfl rfl (List.forall_mem_cons.mpr ⟨⟨by decide, by decide, List.mem_filter.mpr ⟨List.mem_of_getElem? (i := 553) (by decide +kernel), by decide +kernel⟩⟩, List.forall_mem_cons.mpr ⟨⟨by decide, by decide, List.mem_filter.mpr ⟨List.mem_of_getElem? (i := 414) (by decide +kernel), by decide +kernel⟩⟩, List.forall_mem_cons.mpr ⟨⟨by decide, by decide, List.mem_filter.mpr ⟨List.mem_of_getElem? (i := 516) (by decide +kernel), by decide +kernel⟩⟩, fun _ h => absurd h List.not_mem_nil⟩⟩⟩) (fun q hq => Or.inl ((show ∀ q ∈ pg_188, (∀ i, q.2.1 ≠ .invokestatic i) ∧ (∀ i, q.2.1 ≠ .invokespecial i) from by simp [pg_188]) q hq))
theorem pc_189 : pg_189.all (chk LK_10 cL_open) = true := by decide +kernel
theorem pk_189 : ∀ q ∈ pg_189, OpOk 189 q.1 q.2 := chk_ok pc_189 LKok_10 rfl rfl (List.forall_mem_cons.mpr ⟨⟨by decide, by decide, List.mem_filter.mpr ⟨List.mem_of_getElem? (i := 553) (by decide +kernel), by decide +kernel⟩⟩, List.forall_mem_cons.mpr ⟨⟨by decide, by decide, List.mem_filter.mpr ⟨List.mem_of_getElem? (i := 414) (by decide +kernel), by decide +kernel⟩⟩, fun _ h => absurd h List.not_mem_nil⟩⟩) (fun q hq => Or.inl ((show ∀ q ∈ pg_189, (∀ i, q.2.1 ≠ .invokestatic i) ∧ (∀ i, q.2.1 ≠ .invokespecial i) from by simp [pg_189]) q hq))
theorem pc_190 : pg_190.all (chk LK_10 cL_pay) = true := by decide +kernel
theorem pk_190 : ∀ q ∈ pg_190, OpOk 190 q.1 q.2 := chk_ok pc_190 LKok_10 rfl rfl (List.forall_mem_cons.mpr ⟨⟨by decide, by decide, List.mem_filter.mpr ⟨List.mem_of_getElem? (i := 553) (by decide +kernel), by decide +kernel⟩⟩, List.forall_mem_cons.mpr ⟨⟨by decide, by decide, List.mem_filter.mpr ⟨List.mem_of_getElem? (i := 414) (by decide +kernel), by decide +kernel⟩⟩, fun _ h => absurd h List.not_mem_nil⟩⟩) (fun q hq => Or.inl ((show ∀ q ∈ pg_190, (∀ i, q.2.1 ≠ .invokestatic i) ∧ (∀ i, q.2.1 ≠ .invokespecial i) from by simp [pg_190]) q hq))
theorem pc_191 : pg_191.all (chk LK_10 cL_thief) = true := by decide +kernel
theorem pk_191 : ∀ q ∈ pg_191, OpOk 191 q.1 q.2 := chk_ok pc_191 LKok_10 rfl rfl (List.forall_mem_cons.mpr ⟨⟨by decide, by decide, List.mem_filter.mpr ⟨List.mem_of_getElem? (i := 553) (by decide +kernel), by decide +kernel⟩⟩, fun _ h => absurd h List.not_mem_nil⟩) (fun q hq => Or.inl ((show ∀ q ∈ pg_191, (∀ i, q.2.1 ≠ .invokestatic i) ∧ (∀ i, q.2.1 ≠ .invokespecial i) from by simp [pg_191]) q hq))
theorem pc_192 : pg_192.all (chk LK_10 cL_complain) = true := by decide +kernel
theorem pk_192 : ∀ q ∈ pg_192, OpOk 192 q.1 q.2 := chk_ok pc_192 LKok_10 rfl rfl (List.forall_mem_cons.mpr ⟨⟨by decide, by decide, List.mem_filter.mpr ⟨List.mem_of_getElem? (i := 553) (by decide +kernel), by decide +kernel⟩⟩, List.forall_mem_cons.mpr ⟨⟨by decide, by decide, List.mem_filter.mpr ⟨List.mem_of_getElem? (i := 414) (by decide +kernel), by decide +kernel⟩⟩, List.forall_mem_cons.mpr ⟨⟨by decide, by decide, List.mem_filter.mpr ⟨List.mem_of_getElem? (i := 516) (by decide +kernel), by decide +kernel⟩⟩, fun _ h => absurd h List.not_mem_nil⟩⟩⟩) (fun q hq => Or.inl ((show ∀ q ∈ pg_192, (∀ i, q.2.1 ≠ .invokestatic i) ∧ (∀ i, q.2.1 ≠ .invokespecial i) from by simp [pg_192]) q hq))
theorem pc_193 : pg_193.all (chk LK_10 cL_repair) = true := by decide +kernel
theorem pk_193 : ∀ q ∈ pg_193, OpOk 193 q.1 q.2 := chk_ok pc_193 LKok_10 rfl rfl (List.forall_mem_cons.mpr ⟨⟨by decide, by decide, List.mem_filter.mpr ⟨List.mem_of_getElem? (i := 553) (by decide +kernel), by decide +kernel⟩⟩, List.forall_mem_cons.mpr ⟨⟨by decide, by decide, List.mem_filter.mpr ⟨List.mem_of_getElem? (i := 516) (by decide +kernel), by decide +kernel⟩⟩, fun _ h => absurd h List.not_mem_nil⟩⟩) (fun q hq => Or.inl ((show ∀ q ∈ pg_193, (∀ i, q.2.1 ≠ .invokestatic i) ∧ (∀ i, q.2.1 ≠ .invokespecial i) from by simp [pg_193]) q hq))
theorem pc_194 : pg_194.all (chk LK_10 cL_pass) = true := by decide +kernel
theorem pk_194 : ∀ q ∈ pg_194, OpOk 194 q.1 q.2 := chk_ok pc_194 LKok_10 rfl rfl (List.forall_mem_cons.mpr ⟨⟨by decide, by decide, List.mem_filter.mpr ⟨List.mem_of_getElem? (i := 414) (by decide +kernel), by decide +kernel⟩⟩, fun _ h => absurd h List.not_mem_nil⟩) (fun q hq => Or.inl ((show ∀ q ∈ pg_194, (∀ i, q.2.1 ≠ .invokestatic i) ∧ (∀ i, q.2.1 ≠ .invokespecial i) from by simp [pg_194]) q hq))
theorem pc_195 : pg_195.all (chk LK_10 cL_gateOf) = true := by decide +kernel
theorem pk_195 : ∀ q ∈ pg_195, OpOk 195 q.1 q.2 := chk_ok pc_195 LKok_10 rfl rfl (List.forall_mem_cons.mpr ⟨⟨by decide, by decide, List.mem_filter.mpr ⟨List.mem_of_getElem? (i := 553) (by decide +kernel), by decide +kernel⟩⟩, List.forall_mem_cons.mpr ⟨⟨by decide, by decide, List.mem_filter.mpr ⟨List.mem_of_getElem? (i := 414) (by decide +kernel), by decide +kernel⟩⟩, fun _ h => absurd h List.not_mem_nil⟩⟩) (fun q hq => Or.inl ((show ∀ q ∈ pg_195, (∀ i, q.2.1 ≠ .invokestatic i) ∧ (∀ i, q.2.1 ≠ .invokespecial i) from by simp [pg_195]) q hq))
theorem pc_196 : pg_196.all (chk LK_10 cL_nextOpen) = true := by decide +kernel
theorem pk_196 : ∀ q ∈ pg_196, OpOk 196 q.1 q.2 := chk_ok pc_196 LKok_10 rfl rfl (List.forall_mem_cons.mpr ⟨⟨by decide, by decide, List.mem_filter.mpr ⟨List.mem_of_getElem? (i := 553) (by decide +kernel), by decide +kernel⟩⟩, List.forall_mem_cons.mpr ⟨⟨by decide, by decide, List.mem_filter.mpr ⟨List.mem_of_getElem? (i := 806) (by decide +kernel), by decide +kernel⟩⟩, fun _ h => absurd h List.not_mem_nil⟩⟩) (fun q hq => Or.inl ((show ∀ q ∈ pg_196, (∀ i, q.2.1 ≠ .invokestatic i) ∧ (∀ i, q.2.1 ≠ .invokespecial i) from by simp [pg_196]) q hq))
theorem pc_197 : pg_197.all (chk LK_10 cL_gardenOf) = true := by decide +kernel
theorem pk_197 : ∀ q ∈ pg_197, OpOk 197 q.1 q.2 := chk_ok pc_197 LKok_10 rfl rfl (List.forall_mem_cons.mpr ⟨⟨by decide, by decide, List.mem_filter.mpr ⟨List.mem_of_getElem? (i := 553) (by decide +kernel), by decide +kernel⟩⟩, List.forall_mem_cons.mpr ⟨⟨by decide, by decide, List.mem_filter.mpr ⟨List.mem_of_getElem? (i := 414) (by decide +kernel), by decide +kernel⟩⟩, fun _ h => absurd h List.not_mem_nil⟩⟩) (fun q hq => Or.inl ((show ∀ q ∈ pg_197, (∀ i, q.2.1 ≠ .invokestatic i) ∧ (∀ i, q.2.1 ≠ .invokespecial i) from by simp [pg_197]) q hq))
theorem pc_198 : pg_198.all (chk LK_10 cL_thirsty) = true := by decide +kernel
theorem pk_198 : ∀ q ∈ pg_198, OpOk 198 q.1 q.2 := chk_ok pc_198 LKok_10 rfl rfl (List.forall_mem_cons.mpr ⟨⟨by decide, by decide, List.mem_filter.mpr ⟨List.mem_of_getElem? (i := 553) (by decide +kernel), by decide +kernel⟩⟩, List.forall_mem_cons.mpr ⟨⟨by decide, by decide, List.mem_filter.mpr ⟨List.mem_of_getElem? (i := 806) (by decide +kernel), by decide +kernel⟩⟩, fun _ h => absurd h List.not_mem_nil⟩⟩) (fun q hq => Or.inl ((show ∀ q ∈ pg_198, (∀ i, q.2.1 ≠ .invokestatic i) ∧ (∀ i, q.2.1 ≠ .invokespecial i) from by simp [pg_198]) q hq))
theorem pc_199 : pg_199.all (chk LK_10 cL_placeAgain) = true := by decide +kernel
theorem pk_199 : ∀ q ∈ pg_199, OpOk 199 q.1 q.2 := chk_ok pc_199 LKok_10 rfl rfl (List.forall_mem_cons.mpr ⟨⟨by decide, by decide, List.mem_filter.mpr ⟨List.mem_of_getElem? (i := 553) (by decide +kernel), by decide +kernel⟩⟩, fun _ h => absurd h List.not_mem_nil⟩) (fun q hq => Or.inl ((show ∀ q ∈ pg_199, (∀ i, q.2.1 ≠ .invokestatic i) ∧ (∀ i, q.2.1 ≠ .invokespecial i) from by simp [pg_199]) q hq))
theorem pc_200 : pg_200.all (chk LK_10 cL_complaint) = true := by decide +kernel
theorem pk_200 : ∀ q ∈ pg_200, OpOk 200 q.1 q.2 := chk_ok pc_200 LKok_10 rfl rfl (List.forall_mem_cons.mpr ⟨⟨by decide, by decide, List.mem_filter.mpr ⟨List.mem_of_getElem? (i := 806) (by decide +kernel), by decide +kernel⟩⟩, fun _ h => absurd h List.not_mem_nil⟩) (fun q hq => Or.inl ((show ∀ q ∈ pg_200, (∀ i, q.2.1 ≠ .invokestatic i) ∧ (∀ i, q.2.1 ≠ .invokespecial i) from by simp [pg_200]) q hq))
theorem pc_201 : pg_201.all (chk LK_10 cL_sign) = true := by decide +kernel
theorem pk_201 : ∀ q ∈ pg_201, OpOk 201 q.1 q.2 := chk_ok pc_201 LKok_10 rfl rfl (List.forall_mem_cons.mpr ⟨⟨by decide, by decide, List.mem_filter.mpr ⟨List.mem_of_getElem? (i := 553) (by decide +kernel), by decide +kernel⟩⟩, fun _ h => absurd h List.not_mem_nil⟩) (fun q hq => Or.inl ((show ∀ q ∈ pg_201, (∀ i, q.2.1 ≠ .invokestatic i) ∧ (∀ i, q.2.1 ≠ .invokespecial i) from by simp [pg_201]) q hq))
theorem pc_202 : pg_202.all (chk LK_10 cL_part) = true := by decide +kernel
theorem pk_202 : ∀ q ∈ pg_202, OpOk 202 q.1 q.2 := chk_ok pc_202 LKok_10 rfl rfl (List.forall_mem_cons.mpr ⟨⟨by decide, by decide, List.mem_filter.mpr ⟨List.mem_of_getElem? (i := 553) (by decide +kernel), by decide +kernel⟩⟩, fun _ h => absurd h List.not_mem_nil⟩) (fun q hq => Or.inl ((show ∀ q ∈ pg_202, (∀ i, q.2.1 ≠ .invokestatic i) ∧ (∀ i, q.2.1 ≠ .invokespecial i) from by simp [pg_202]) q hq))
theorem pc_203 : pg_203.all (chk LK_10 cL_ahead) = true := by decide +kernel
theorem pk_203 : ∀ q ∈ pg_203, OpOk 203 q.1 q.2 := chk_ok pc_203 LKok_10 rfl rfl (List.forall_mem_cons.mpr ⟨⟨by decide, by decide, List.mem_filter.mpr ⟨List.mem_of_getElem? (i := 553) (by decide +kernel), by decide +kernel⟩⟩, List.forall_mem_cons.mpr ⟨⟨by decide, by decide, List.mem_filter.mpr ⟨List.mem_of_getElem? (i := 414) (by decide +kernel), by decide +kernel⟩⟩, fun _ h => absurd h List.not_mem_nil⟩⟩) (fun q hq => Or.inl ((show ∀ q ∈ pg_203, (∀ i, q.2.1 ≠ .invokestatic i) ∧ (∀ i, q.2.1 ≠ .invokespecial i) from by simp [pg_203]) q hq))
theorem pc_204 : pg_204.all (chk LK_10 cL_dryIn) = true := by decide +kernel
theorem pk_204 : ∀ q ∈ pg_204, OpOk 204 q.1 q.2 := chk_ok pc_204 LKok_10 rfl rfl (List.forall_mem_cons.mpr ⟨⟨by decide, by decide, List.mem_filter.mpr ⟨List.mem_of_getElem? (i := 806) (by decide +kernel), by decide +kernel⟩⟩, fun _ h => absurd h List.not_mem_nil⟩) (fun q hq => Or.inl ((show ∀ q ∈ pg_204, (∀ i, q.2.1 ≠ .invokestatic i) ∧ (∀ i, q.2.1 ≠ .invokespecial i) from by simp [pg_204]) q hq))
theorem pc_205 : pg_205.all (chk LK_10 cL_bestHour) = true := by decide +kernel
theorem pk_205 : ∀ q ∈ pg_205, OpOk 205 q.1 q.2 := chk_ok pc_205 LKok_10 rfl rfl (List.forall_mem_cons.mpr ⟨⟨by decide, by decide, List.mem_filter.mpr ⟨List.mem_of_getElem? (i := 553) (by decide +kernel), by decide +kernel⟩⟩, List.forall_mem_cons.mpr ⟨⟨by decide, by decide, List.mem_filter.mpr ⟨List.mem_of_getElem? (i := 806) (by decide +kernel), by decide +kernel⟩⟩, fun _ h => absurd h List.not_mem_nil⟩⟩) (fun q hq => Or.inl ((show ∀ q ∈ pg_205, (∀ i, q.2.1 ≠ .invokestatic i) ∧ (∀ i, q.2.1 ≠ .invokespecial i) from by simp [pg_205]) q hq))
theorem pc_206 : pg_206.all (chk LK_10 cL_append) = true := by decide +kernel
theorem pk_206 : ∀ q ∈ pg_206, OpOk 206 q.1 q.2 := chk_ok pc_206 LKok_10 rfl rfl (List.forall_mem_cons.mpr ⟨⟨by decide, by decide, List.mem_filter.mpr ⟨List.mem_of_getElem? (i := 925) (by decide +kernel), by decide +kernel⟩⟩, fun _ h => absurd h List.not_mem_nil⟩) (fun q hq => Or.inl ((show ∀ q ∈ pg_206, (∀ i, q.2.1 ≠ .invokestatic i) ∧ (∀ i, q.2.1 ≠ .invokespecial i) from by simp [pg_206]) q hq))
theorem pc_207 : pg_207.all (chk LK_10 cL_read) = true := by decide +kernel
theorem pk_207 : ∀ q ∈ pg_207, OpOk 207 q.1 q.2 := chk_ok pc_207 LKok_10 rfl rfl (List.forall_mem_cons.mpr ⟨⟨by decide, by decide, List.mem_filter.mpr ⟨List.mem_of_getElem? (i := 414) (by decide +kernel), by decide +kernel⟩⟩, List.forall_mem_cons.mpr ⟨⟨by decide, by decide, List.mem_filter.mpr ⟨List.mem_of_getElem? (i := 516) (by decide +kernel), by decide +kernel⟩⟩, fun _ h => absurd h List.not_mem_nil⟩⟩) (fun q hq => Or.inl ((show ∀ q ∈ pg_207, (∀ i, q.2.1 ≠ .invokestatic i) ∧ (∀ i, q.2.1 ≠ .invokespecial i) from by simp [pg_207]) q hq))
theorem pc_208 : pg_208.all (chk LK_10 cL_refusal) = true := by decide +kernel
theorem pk_208 : ∀ q ∈ pg_208, OpOk 208 q.1 q.2 := chk_ok pc_208 LKok_10 rfl rfl (List.forall_mem_cons.mpr ⟨⟨by decide, by decide, List.mem_filter.mpr ⟨List.mem_of_getElem? (i := 806) (by decide +kernel), by decide +kernel⟩⟩, fun _ h => absurd h List.not_mem_nil⟩) (fun q hq => Or.inl ((show ∀ q ∈ pg_208, (∀ i, q.2.1 ≠ .invokestatic i) ∧ (∀ i, q.2.1 ≠ .invokespecial i) from by simp [pg_208]) q hq))
theorem pc_209 : pg_209.all (chk LK_10 cL_account) = true := by decide +kernel
theorem pk_209 : ∀ q ∈ pg_209, OpOk 209 q.1 q.2 := chk_ok pc_209 LKok_10 rfl rfl (List.forall_mem_cons.mpr ⟨⟨by decide, by decide, List.mem_filter.mpr ⟨List.mem_of_getElem? (i := 414) (by decide +kernel), by decide +kernel⟩⟩, fun _ h => absurd h List.not_mem_nil⟩) (fun q hq => Or.inl ((show ∀ q ∈ pg_209, (∀ i, q.2.1 ≠ .invokestatic i) ∧ (∀ i, q.2.1 ≠ .invokespecial i) from by simp [pg_209]) q hq))
theorem pc_210 : pg_210.all (chk LK_10 cL_share) = true := by decide +kernel
theorem pk_210 : ∀ q ∈ pg_210, OpOk 210 q.1 q.2 := chk_ok pc_210 LKok_10 rfl rfl (List.forall_mem_cons.mpr ⟨⟨by decide, by decide, List.mem_filter.mpr ⟨List.mem_of_getElem? (i := 1051) (by decide +kernel), by decide +kernel⟩⟩, fun _ h => absurd h List.not_mem_nil⟩) (fun q hq => Or.inl ((show ∀ q ∈ pg_210, (∀ i, q.2.1 ≠ .invokestatic i) ∧ (∀ i, q.2.1 ≠ .invokespecial i) from by simp [pg_210]) q hq))
theorem pc_211 : pg_211.all (chk LK_10 cL_meanThirst) = true := by decide +kernel
theorem pk_211 : ∀ q ∈ pg_211, OpOk 211 q.1 q.2 := chk_ok pc_211 LKok_10 rfl rfl (List.forall_mem_cons.mpr ⟨⟨by decide, by decide, List.mem_filter.mpr ⟨List.mem_of_getElem? (i := 1051) (by decide +kernel), by decide +kernel⟩⟩, fun _ h => absurd h List.not_mem_nil⟩) (fun q hq => Or.inl ((show ∀ q ∈ pg_211, (∀ i, q.2.1 ≠ .invokestatic i) ∧ (∀ i, q.2.1 ≠ .invokespecial i) from by simp [pg_211]) q hq))
theorem pc_212 : pg_212.all (chk LK_10 cL_undo) = true := by decide +kernel
theorem pk_212 : ∀ q ∈ pg_212, OpOk 212 q.1 q.2 := chk_ok pc_212 LKok_10 rfl rfl (List.forall_mem_cons.mpr ⟨⟨by decide, by decide, List.mem_filter.mpr ⟨List.mem_of_getElem? (i := 925) (by decide +kernel), by decide +kernel⟩⟩, fun _ h => absurd h List.not_mem_nil⟩) (fun q hq => Or.inl ((show ∀ q ∈ pg_212, (∀ i, q.2.1 ≠ .invokestatic i) ∧ (∀ i, q.2.1 ≠ .invokespecial i) from by simp [pg_212]) q hq))
theorem pc_213 : pg_213.all (chk LK_10 cL_restore) = true := by decide +kernel
theorem pk_213 : ∀ q ∈ pg_213, OpOk 213 q.1 q.2 := chk_ok pc_213 LKok_10 rfl rfl (List.forall_mem_cons.mpr ⟨⟨by decide, by decide, List.mem_filter.mpr ⟨List.mem_of_getElem? (i := 925) (by decide +kernel), by decide +kernel⟩⟩, fun _ h => absurd h List.not_mem_nil⟩) (fun q hq => Or.inl ((show ∀ q ∈ pg_213, (∀ i, q.2.1 ≠ .invokestatic i) ∧ (∀ i, q.2.1 ≠ .invokespecial i) from by simp [pg_213]) q hq))
theorem pc_214_0 : ((pg_214.drop 0).take 80).all (chk LK_10 cL_law) = true := by decide +kernel
theorem pc_214_1 : ((pg_214.drop 80).take 80).all (chk LK_10 cL_law) = true := by decide +kernel
theorem pc_214_2 : ((pg_214.drop 160).take 80).all (chk LK_10 cL_law) = true := by decide +kernel
theorem pc_214_3 : ((pg_214.drop 240).take 80).all (chk LK_10 cL_law) = true := by decide +kernel
theorem pc_214_4 : ((pg_214.drop 320).take 80).all (chk LK_10 cL_law) = true := by decide +kernel
theorem pc_214_5 : ((pg_214.drop 400).take 80).all (chk LK_10 cL_law) = true := by decide +kernel
theorem pc_214_6 : ((pg_214.drop 480).take 80).all (chk LK_10 cL_law) = true := by decide +kernel
theorem pc_214_7 : ((pg_214.drop 560).take 80).all (chk LK_10 cL_law) = true := by decide +kernel
theorem pc_214_8 : ((pg_214.drop 640).take 80).all (chk LK_10 cL_law) = true := by decide +kernel
theorem pc_214_9 : ((pg_214.drop 720).take 80).all (chk LK_10 cL_law) = true := by decide +kernel
theorem pc_214_10 : ((pg_214.drop 800).take 80).all (chk LK_10 cL_law) = true := by decide +kernel
theorem pc_214_11 : ((pg_214.drop 880).take 80).all (chk LK_10 cL_law) = true := by decide +kernel
theorem pc_214_12 : ((pg_214.drop 960).take 80).all (chk LK_10 cL_law) = true := by decide +kernel
theorem pc_214_13 : ((pg_214.drop 1040).take 80).all (chk LK_10 cL_law) = true := by decide +kernel
theorem pc_214_14 : ((pg_214.drop 1120).take 80).all (chk LK_10 cL_law) = true := by decide +kernel
theorem pd_214_15 : (pg_214.drop 1200).all (chk LK_10 cL_law) = true := by decide +kernel
theorem pd_214_14 : (pg_214.drop 1120).all (chk LK_10 cL_law) = true := all_tk (i := 1120) (n := 80) pc_214_14 pd_214_15
theorem pd_214_13 : (pg_214.drop 1040).all (chk LK_10 cL_law) = true := all_tk (i := 1040) (n := 80) pc_214_13 pd_214_14
theorem pd_214_12 : (pg_214.drop 960).all (chk LK_10 cL_law) = true := all_tk (i := 960) (n := 80) pc_214_12 pd_214_13
theorem pd_214_11 : (pg_214.drop 880).all (chk LK_10 cL_law) = true := all_tk (i := 880) (n := 80) pc_214_11 pd_214_12
theorem pd_214_10 : (pg_214.drop 800).all (chk LK_10 cL_law) = true := all_tk (i := 800) (n := 80) pc_214_10 pd_214_11
theorem pd_214_9 : (pg_214.drop 720).all (chk LK_10 cL_law) = true := all_tk (i := 720) (n := 80) pc_214_9 pd_214_10
theorem pd_214_8 : (pg_214.drop 640).all (chk LK_10 cL_law) = true := all_tk (i := 640) (n := 80) pc_214_8 pd_214_9
theorem pd_214_7 : (pg_214.drop 560).all (chk LK_10 cL_law) = true := all_tk (i := 560) (n := 80) pc_214_7 pd_214_8
theorem pd_214_6 : (pg_214.drop 480).all (chk LK_10 cL_law) = true := all_tk (i := 480) (n := 80) pc_214_6 pd_214_7
theorem pd_214_5 : (pg_214.drop 400).all (chk LK_10 cL_law) = true := all_tk (i := 400) (n := 80) pc_214_5 pd_214_6
theorem pd_214_4 : (pg_214.drop 320).all (chk LK_10 cL_law) = true := all_tk (i := 320) (n := 80) pc_214_4 pd_214_5
theorem pd_214_3 : (pg_214.drop 240).all (chk LK_10 cL_law) = true := all_tk (i := 240) (n := 80) pc_214_3 pd_214_4
theorem pd_214_2 : (pg_214.drop 160).all (chk LK_10 cL_law) = true := all_tk (i := 160) (n := 80) pc_214_2 pd_214_3
theorem pd_214_1 : (pg_214.drop 80).all (chk LK_10 cL_law) = true := all_tk (i := 80) (n := 80) pc_214_1 pd_214_2
theorem pd_214_0 : (pg_214.drop 0).all (chk LK_10 cL_law) = true := all_tk (i := 0) (n := 80) pc_214_0 pd_214_1
theorem pc_214 : pg_214.all (chk LK_10 cL_law) = true := all_0 pd_214_0
theorem pk_214 : ∀ q ∈ pg_214, OpOk 214 q.1 q.2 := chk_ok pc_214 LKok_10 rfl rfl (fun q h => absurd h List.not_mem_nil) (fun _ _ => Or.inr rfl)
theorem pc_215 : pg_215.all (chk LK_11 cJ9_floorMod_7cf53) = true := by decide +kernel
theorem pk_215 : ∀ q ∈ pg_215, OpOk 215 q.1 q.2 := chk_ok pc_215 LKok_11 rfl rfl (fun q h => absurd h List.not_mem_nil) (fun _ _ => Or.inr rfl)
theorem pc_216 : pg_216.all (chk LK_11 cJ9_min_7cf53) = true := by decide +kernel
theorem pk_216 : ∀ q ∈ pg_216, OpOk 216 q.1 q.2 := chk_ok pc_216 LKok_11 rfl rfl (fun q h => absurd h List.not_mem_nil) (fun _ _ => Or.inr rfl)
theorem pc_217 : pg_217.all (chk LK_12 cJ6_bitCount_0f7a4) = true := by decide +kernel
theorem pk_217 : ∀ q ∈ pg_217, OpOk 217 q.1 q.2 := chk_ok pc_217 LKok_12 rfl rfl (fun q h => absurd h List.not_mem_nil) (fun _ _ => Or.inr rfl)
theorem pc_218 : pg_218.all (chk LK_13 cJO_init) = true := by decide +kernel
theorem pk_218 : ∀ q ∈ pg_218, OpOk 218 q.1 q.2 := chk_ok pc_218 LKok_13 rfl rfl (fun q h => absurd h List.not_mem_nil) (fun _ _ => Or.inr rfl)
def AllFrom : Nat → List (List (Nat × Op)) → Prop
  | _, [] => True
  | i, p :: t => (∀ q ∈ p, OpOk i q.1 q.2) ∧ AllFrom (i + 1) t
theorem AllFrom_app : ∀ {i j : Nat} {l l' : List (List (Nat × Op))}, AllFrom i l → i + l.length = j → AllFrom j l' → AllFrom i (l ++ l')
  | i, j, [], l', _, h, h' => by
    have : i = j := by simpa using h
    subst this
    exact h'
  | i, j, p :: t, l', h, hl, h' => ⟨h.1, AllFrom_app (i := i + 1) h.2 (by simp at hl; omega) h'⟩
theorem AllFrom_get : ∀ {i j : Nat} {l : List (List (Nat × Op))} {p : List (Nat × Op)}, AllFrom i l → l[j]? = some p → ∀ q ∈ p, OpOk (i + j) q.1 q.2
  | i, 0, p' :: t, p, h, hp => by
    simp only [List.getElem?_cons_zero, Option.some.injEq] at hp
    subst hp
    exact h.1
  | i, j + 1, p' :: t, p, h, hp => by
    rw [List.getElem?_cons_succ] at hp
    have := AllFrom_get h.2 hp
    rwa [Nat.add_assoc, Nat.add_comm 1 j] at this
  | i, j, [], p, h, hp => by simp at hp
def pt_0 : List (List (Nat × Op)) := [pg_0, pg_1, pg_2, pg_3, pg_4, pg_5, pg_6, pg_7, pg_8, pg_9, pg_10, pg_11, pg_12, pg_13, pg_14, pg_15, pg_16, pg_17, pg_18, pg_19]
theorem pta_0 : AllFrom 0 pt_0 := ⟨pk_0, pk_1, pk_2, pk_3, pk_4, pk_5, pk_6, pk_7, pk_8, pk_9, pk_10, pk_11, pk_12, pk_13, pk_14, pk_15, pk_16, pk_17, pk_18, pk_19, trivial⟩
def pt_1 : List (List (Nat × Op)) := [pg_20, pg_21, pg_22, pg_23, pg_24, pg_25, pg_26, pg_27, pg_28, pg_29, pg_30, pg_31, pg_32, pg_33, pg_34, pg_35, pg_36, pg_37, pg_38, pg_39]
theorem pta_1 : AllFrom 20 pt_1 := ⟨pk_20, pk_21, pk_22, pk_23, pk_24, pk_25, pk_26, pk_27, pk_28, pk_29, pk_30, pk_31, pk_32, pk_33, pk_34, pk_35, pk_36, pk_37, pk_38, pk_39, trivial⟩
def pt_2 : List (List (Nat × Op)) := [pg_40, pg_41, pg_42, pg_43, pg_44, pg_45, pg_46, pg_47, pg_48, pg_49, pg_50, pg_51, pg_52, pg_53, pg_54, pg_55, pg_56, pg_57, pg_58, pg_59]
theorem pta_2 : AllFrom 40 pt_2 := ⟨pk_40, pk_41, pk_42, pk_43, pk_44, pk_45, pk_46, pk_47, pk_48, pk_49, pk_50, pk_51, pk_52, pk_53, pk_54, pk_55, pk_56, pk_57, pk_58, pk_59, trivial⟩
def pt_3 : List (List (Nat × Op)) := [pg_60, pg_61, pg_62, pg_63, pg_64, pg_65, pg_66, pg_67, pg_68, pg_69, pg_70, pg_71, pg_72, pg_73, pg_74, pg_75, pg_76, pg_77, pg_78, pg_79]
theorem pta_3 : AllFrom 60 pt_3 := ⟨pk_60, pk_61, pk_62, pk_63, pk_64, pk_65, pk_66, pk_67, pk_68, pk_69, pk_70, pk_71, pk_72, pk_73, pk_74, pk_75, pk_76, pk_77, pk_78, pk_79, trivial⟩
def pt_4 : List (List (Nat × Op)) := [pg_80, pg_81, pg_82, pg_83, pg_84, pg_85, pg_86, pg_87, pg_88, pg_89, pg_90, pg_91, pg_92, pg_93, pg_94, pg_95, pg_96, pg_97, pg_98, pg_99]
theorem pta_4 : AllFrom 80 pt_4 := ⟨pk_80, pk_81, pk_82, pk_83, pk_84, pk_85, pk_86, pk_87, pk_88, pk_89, pk_90, pk_91, pk_92, pk_93, pk_94, pk_95, pk_96, pk_97, pk_98, pk_99, trivial⟩
def pt_5 : List (List (Nat × Op)) := [pg_100, pg_101, pg_102, pg_103, pg_104, pg_105, pg_106, pg_107, pg_108, pg_109, pg_110, pg_111, pg_112, pg_113, pg_114, pg_115, pg_116, pg_117, pg_118, pg_119]
theorem pta_5 : AllFrom 100 pt_5 := ⟨pk_100, pk_101, pk_102, pk_103, pk_104, pk_105, pk_106, pk_107, pk_108, pk_109, pk_110, pk_111, pk_112, pk_113, pk_114, pk_115, pk_116, pk_117, pk_118, pk_119, trivial⟩
def pt_6 : List (List (Nat × Op)) := [pg_120, pg_121, pg_122, pg_123, pg_124, pg_125, pg_126, pg_127, pg_128, pg_129, pg_130, pg_131, pg_132, pg_133, pg_134, pg_135, pg_136, pg_137, pg_138, pg_139]
theorem pta_6 : AllFrom 120 pt_6 := ⟨pk_120, pk_121, pk_122, pk_123, pk_124, pk_125, pk_126, pk_127, pk_128, pk_129, pk_130, pk_131, pk_132, pk_133, pk_134, pk_135, pk_136, pk_137, pk_138, pk_139, trivial⟩
def pt_7 : List (List (Nat × Op)) := [pg_140, pg_141, pg_142, pg_143, pg_144, pg_145, pg_146, pg_147, pg_148, pg_149, pg_150, pg_151, pg_152, pg_153, pg_154, pg_155, pg_156, pg_157, pg_158, pg_159]
theorem pta_7 : AllFrom 140 pt_7 := ⟨pk_140, pk_141, pk_142, pk_143, pk_144, pk_145, pk_146, pk_147, pk_148, pk_149, pk_150, pk_151, pk_152, pk_153, pk_154, pk_155, pk_156, pk_157, pk_158, pk_159, trivial⟩
def pt_8 : List (List (Nat × Op)) := [pg_160, pg_161, pg_162, pg_163, pg_164, pg_165, pg_166, pg_167, pg_168, pg_169, pg_170, pg_171, pg_172, pg_173, pg_174, pg_175, pg_176, pg_177, pg_178, pg_179]
theorem pta_8 : AllFrom 160 pt_8 := ⟨pk_160, pk_161, pk_162, pk_163, pk_164, pk_165, pk_166, pk_167, pk_168, pk_169, pk_170, pk_171, pk_172, pk_173, pk_174, pk_175, pk_176, pk_177, pk_178, pk_179, trivial⟩
def pt_9 : List (List (Nat × Op)) := [pg_180, pg_181, pg_182, pg_183, pg_184, pg_185, pg_186, pg_187, pg_188, pg_189, pg_190, pg_191, pg_192, pg_193, pg_194, pg_195, pg_196, pg_197, pg_198, pg_199]
theorem pta_9 : AllFrom 180 pt_9 := ⟨pk_180, pk_181, pk_182, pk_183, pk_184, pk_185, pk_186, pk_187, pk_188, pk_189, pk_190, pk_191, pk_192, pk_193, pk_194, pk_195, pk_196, pk_197, pk_198, pk_199, trivial⟩
def pt_10 : List (List (Nat × Op)) := [pg_200, pg_201, pg_202, pg_203, pg_204, pg_205, pg_206, pg_207, pg_208, pg_209, pg_210, pg_211, pg_212, pg_213, pg_214, pg_215, pg_216, pg_217, pg_218]
theorem pta_10 : AllFrom 200 pt_10 := ⟨pk_200, pk_201, pk_202, pk_203, pk_204, pk_205, pk_206, pk_207, pk_208, pk_209, pk_210, pk_211, pk_212, pk_213, pk_214, pk_215, pk_216, pk_217, pk_218, trivial⟩
theorem pt_all : AllFrom 0 (pt_0 ++ (pt_1 ++ (pt_2 ++ (pt_3 ++ (pt_4 ++ (pt_5 ++ (pt_6 ++ (pt_7 ++ (pt_8 ++ (pt_9 ++ (pt_10))))))))))) := AllFrom_app pta_0 rfl (AllFrom_app pta_1 rfl (AllFrom_app pta_2 rfl (AllFrom_app pta_3 rfl (AllFrom_app pta_4 rfl (AllFrom_app pta_5 rfl (AllFrom_app pta_6 rfl (AllFrom_app pta_7 rfl (AllFrom_app pta_8 rfl (AllFrom_app pta_9 rfl (pta_10))))))))))
theorem pt_eq : pTab = pt_0 ++ (pt_1 ++ (pt_2 ++ (pt_3 ++ (pt_4 ++ (pt_5 ++ (pt_6 ++ (pt_7 ++ (pt_8 ++ (pt_9 ++ (pt_10)))))))))) := by
  simp only [pTab, pt_0, pt_1, pt_2, pt_3, pt_4, pt_5, pt_6, pt_7, pt_8, pt_9, pt_10, List.cons_append, List.nil_append]
theorem lookup_mem {pc : Nat} {op : Op} : ∀ {l : List (Nat × Op)}, l.lookup pc = some op → (pc, op) ∈ l
  | [], h => by simp at h
  | (k, v) :: t, h => by
    rw [List.lookup_cons] at h
    split at h
    · next e =>
      cases h
      have : pc = k := by simpa using e
      rw [this]
      exact List.mem_cons_self
    · exact List.mem_cons_of_mem _ (lookup_mem h)
theorem pg_ok : PG := by
  intro mm pc op h
  unfold lk at h
  have hA : AllFrom 0 pTab := pt_eq ▸ pt_all
  rw [List.getD_eq_getElem?_getD] at h
  cases hp : pTab[mm]? with
  | none =>
    rw [hp] at h
    cases h
  | some p =>
    rw [hp] at h
    have := AllFrom_get hA hp _ (lookup_mem h)
    rwa [Nat.zero_add] at this
