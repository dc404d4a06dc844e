/-! THE LAW'S BEGINNING: the constructors' programs in numbers, and a quick evaluator over them -/
/-- code, argument, length, and the row's own three numbers -/
abbrev EO : Type := Nat × Nat × Nat × Nat × Nat × Nat
def encV (v : Int32) (l : Nat) : Nat × Nat × Nat := if Int32.ofNat v.toBitVec.toNat = v then (3, v.toBitVec.toNat, l) else (0, 0, 0)
def encI (op : Op) : Nat × Nat × Nat := match op.1 with
  | .aload_n i => (1, i, 1)
  | .iload_n i => (2, i, 1)
  | .iconst n => encV (Int32.ofInt n) 1
  | .bipush n => encV (Int8.ofInt n).toInt32 2
  | .sipush n => encV (Int16.ofInt n).toInt32 3
  | .istore_n i => (4, i, 1)
  | .iinc i n => if n = 1 ∧ op.2.1 = 3 then (6, i, 3) else (0, 0, 0)
  | .goto _ => (7, 0, 3)
  | .if_icmp .ge _ => (8, 0, 3)
  | .dup => (9, 0, 1)
  | .getfield _ => (10, 0, 3)
  | .putfield _ => (11, 0, 3)
  | .aaload => (12, 0, 1)
  | .aastore => (13, 0, 1)
  | .iastore => (14, 0, 1)
  | .new _ => (15, 0, 3)
  | .newarray _ => (16, 0, 2)
  | .anewarray _ => (17, 0, 3)
  | .invokespecial _ => if op.2.2.1 = 5 then (20, 0, 3) else (18, 0, 3)
  | .return_ => (19, 0, 1)
  | _ => (0, 0, 0)
def enc (op : Op) : EO := ((encI op).1, (encI op).2.1, (encI op).2.2, op.2.2.1, op.2.2.2.1, op.2.2.2.2)
def pq_0 : List (Nat × EO) := [(0, 1, 0, 1, 0, 0, 0), (1, 20, 0, 3, 5, 218, 0), (4, 19, 0, 1, 0, 0, 0)]
theorem pq_0_ok : pq_0.all (fun q => decide ((lk 0 q.1).map enc = some q.2)) = true := by decide +kernel
def pq_3 : List (Nat × EO) := [(0, 1, 0, 1, 0, 0, 0), (1, 20, 0, 3, 5, 218, 0), (4, 1, 0, 1, 0, 0, 0), (5, 3, 6, 2, 0, 0, 0), (7, 17, 0, 3, 4, 0, 0), (10, 11, 0, 3, 1, 0, 2), (13, 1, 0, 1, 0, 0, 0), (14, 3, 12, 2, 0, 0, 0), (16, 17, 0, 3, 5, 0, 0), (19, 11, 0, 3, 1, 1, 2), (22, 1, 0, 1, 0, 0, 0), (23, 3, 8, 2, 0, 0, 0), (25, 16, 0, 2, 0, 0, 0), (27, 11, 0, 3, 1, 2, 2), (30, 1, 0, 1, 0, 0, 0), (31, 3, 8, 2, 0, 0, 0), (33, 16, 0, 2, 0, 0, 0), (35, 11, 0, 3, 1, 3, 2), (38, 1, 0, 1, 0, 0, 0), (39, 3, 12, 2, 0, 0, 0), (41, 17, 0, 3, 5, 0, 0), (44, 11, 0, 3, 1, 4, 2), (47, 1, 0, 1, 0, 0, 0), (48, 15, 0, 3, 0, 0, 0), (51, 9, 0, 1, 0, 0, 0), (52, 18, 0, 3, 4, 0, 0), (55, 11, 0, 3, 1, 5, 2), (58, 1, 0, 1, 0, 0, 0), (59, 3, 10, 2, 0, 0, 0), (61, 11, 0, 3, 1, 10, 0), (64, 1, 0, 1, 0, 0, 0), (65, 3, 5, 1, 0, 0, 0), (66, 11, 0, 3, 1, 11, 0), (69, 3, 0, 1, 0, 0, 0), (70, 4, 1, 1, 0, 0, 0), (71, 2, 1, 1, 0, 0, 0), (72, 3, 6, 2, 0, 0, 0), (74, 8, 0, 3, 96, 0, 0), (77, 1, 0, 1, 0, 0, 0), (78, 10, 0, 3, 1, 0, 2), (81, 2, 1, 1, 0, 0, 0), (82, 15, 0, 3, 3, 0, 0), (85, 9, 0, 1, 0, 0, 0), (86, 18, 0, 3, 4, 48, 0), (89, 13, 0, 1, 0, 0, 0), (90, 6, 1, 3, 0, 0, 0), (93, 7, 0, 3, 71, 0, 0), (96, 3, 0, 1, 0, 0, 0), (97, 4, 1, 1, 0, 0, 0), (98, 2, 1, 1, 0, 0, 0), (99, 3, 12, 2, 0, 0, 0), (101, 8, 0, 3, 136, 0, 0), (104, 1, 0, 1, 0, 0, 0), (105, 10, 0, 3, 1, 1, 2), (108, 2, 1, 1, 0, 0, 0), (109, 15, 0, 3, 2, 0, 0), (112, 9, 0, 1, 0, 0, 0), (113, 2, 1, 1, 0, 0, 0), (114, 18, 0, 3, 2, 41, 1), (117, 13, 0, 1, 0, 0, 0), (118, 1, 0, 1, 0, 0, 0), (119, 10, 0, 3, 1, 4, 2), (122, 2, 1, 1, 0, 0, 0), (123, 1, 0, 1, 0, 0, 0), (124, 10, 0, 3, 1, 1, 2), (127, 2, 1, 1, 0, 0, 0), (128, 12, 0, 1, 0, 0, 0), (129, 13, 0, 1, 0, 0, 0), (130, 6, 1, 3, 0, 0, 0), (133, 7, 0, 3, 98, 0, 0), (136, 19, 0, 1, 0, 0, 0)]
theorem pq_3_ok : pq_3.all (fun q => decide ((lk 3 q.1).map enc = some q.2)) = true := by decide +kernel
def pq_41 : List (Nat × EO) := [(0, 1, 0, 1, 0, 0, 0), (1, 20, 0, 3, 5, 218, 0), (4, 1, 0, 1, 0, 0, 0), (5, 2, 1, 1, 0, 0, 0), (6, 11, 0, 3, 2, 9, 4), (9, 19, 0, 1, 0, 0, 0)]
theorem pq_41_ok : pq_41.all (fun q => decide ((lk 41 q.1).map enc = some q.2)) = true := by decide +kernel
def pq_48 : List (Nat × EO) := [(0, 1, 0, 1, 0, 0, 0), (1, 20, 0, 3, 5, 218, 0), (4, 1, 0, 1, 0, 0, 0), (5, 3, 7, 2, 0, 0, 0), (7, 16, 0, 2, 0, 0, 0), (9, 11, 0, 3, 3, 0, 2), (12, 19, 0, 1, 0, 0, 0)]
theorem pq_48_ok : pq_48.all (fun q => decide ((lk 48 q.1).map enc = some q.2)) = true := by decide +kernel
def pq_57 : List (Nat × EO) := [(0, 1, 0, 1, 0, 0, 0), (1, 20, 0, 3, 5, 218, 0), (4, 1, 0, 1, 0, 0, 0), (5, 3, 8, 2, 0, 0, 0), (7, 17, 0, 3, 6, 0, 0), (10, 11, 0, 3, 4, 0, 2), (13, 3, 0, 1, 0, 0, 0), (14, 4, 1, 1, 0, 0, 0), (15, 2, 1, 1, 0, 0, 0), (16, 3, 8, 2, 0, 0, 0), (18, 8, 0, 3, 40, 0, 0), (21, 1, 0, 1, 0, 0, 0), (22, 10, 0, 3, 4, 0, 2), (25, 2, 1, 1, 0, 0, 0), (26, 15, 0, 3, 1, 0, 0), (29, 9, 0, 1, 0, 0, 0), (30, 18, 0, 3, 2, 3, 0), (33, 13, 0, 1, 0, 0, 0), (34, 6, 1, 3, 0, 0, 0), (37, 7, 0, 3, 15, 0, 0), (40, 19, 0, 1, 0, 0, 0)]
theorem pq_57_ok : pq_57.all (fun q => decide ((lk 57 q.1).map enc = some q.2)) = true := by decide +kernel
def pq_60 : List (Nat × EO) := [(0, 1, 0, 1, 0, 0, 0), (1, 20, 0, 3, 5, 218, 0), (4, 19, 0, 1, 0, 0, 0)]
theorem pq_60_ok : pq_60.all (fun q => decide ((lk 60 q.1).map enc = some q.2)) = true := by decide +kernel
def pq_61 : List (Nat × EO) := [(0, 1, 0, 1, 0, 0, 0), (1, 20, 0, 3, 5, 218, 0), (4, 19, 0, 1, 0, 0, 0)]
theorem pq_61_ok : pq_61.all (fun q => decide ((lk 61 q.1).map enc = some q.2)) = true := by decide +kernel
def pq_63 : List (Nat × EO) := [(0, 1, 0, 1, 0, 0, 0), (1, 20, 0, 3, 5, 218, 0), (4, 1, 0, 1, 0, 0, 0), (5, 3, 60, 2, 0, 0, 0), (7, 16, 0, 2, 1, 0, 0), (9, 11, 0, 3, 7, 0, 2), (12, 1, 0, 1, 0, 0, 0), (13, 3, 20, 2, 0, 0, 0), (15, 17, 0, 3, 7, 0, 0), (18, 11, 0, 3, 7, 1, 2), (21, 3, 0, 1, 0, 0, 0), (22, 4, 1, 1, 0, 0, 0), (23, 2, 1, 1, 0, 0, 0), (24, 3, 20, 2, 0, 0, 0), (26, 8, 0, 3, 48, 0, 0), (29, 1, 0, 1, 0, 0, 0), (30, 10, 0, 3, 7, 1, 2), (33, 2, 1, 1, 0, 0, 0), (34, 15, 0, 3, 5, 0, 0), (37, 9, 0, 1, 0, 0, 0), (38, 18, 0, 3, 4, 60, 0), (41, 13, 0, 1, 0, 0, 0), (42, 6, 1, 3, 0, 0, 0), (45, 7, 0, 3, 23, 0, 0), (48, 19, 0, 1, 0, 0, 0)]
theorem pq_63_ok : pq_63.all (fun q => decide ((lk 63 q.1).map enc = some q.2)) = true := by decide +kernel
def pq_72 : List (Nat × EO) := [(0, 1, 0, 1, 0, 0, 0), (1, 20, 0, 3, 5, 218, 0), (4, 1, 0, 1, 0, 0, 0), (5, 15, 0, 3, 1, 0, 0), (8, 9, 0, 1, 0, 0, 0), (9, 18, 0, 3, 2, 3, 0), (12, 11, 0, 3, 8, 0, 2), (15, 1, 0, 1, 0, 0, 0), (16, 15, 0, 3, 1, 0, 0), (19, 9, 0, 1, 0, 0, 0), (20, 18, 0, 3, 2, 3, 0), (23, 11, 0, 3, 8, 1, 2), (26, 1, 0, 1, 0, 0, 0), (27, 15, 0, 3, 1, 0, 0), (30, 9, 0, 1, 0, 0, 0), (31, 18, 0, 3, 2, 3, 0), (34, 11, 0, 3, 8, 2, 2), (37, 1, 0, 1, 0, 0, 0), (38, 15, 0, 3, 4, 0, 0), (41, 9, 0, 1, 0, 0, 0), (42, 18, 0, 3, 2, 57, 0), (45, 11, 0, 3, 8, 4, 2), (48, 1, 0, 1, 0, 0, 0), (49, 15, 0, 3, 7, 0, 0), (52, 9, 0, 1, 0, 0, 0), (53, 18, 0, 3, 2, 63, 0), (56, 11, 0, 3, 8, 5, 2), (59, 1, 0, 1, 0, 0, 0), (60, 15, 0, 3, 6, 0, 0), (63, 9, 0, 1, 0, 0, 0), (64, 18, 0, 3, 4, 61, 0), (67, 11, 0, 3, 8, 6, 2), (70, 1, 0, 1, 0, 0, 0), (71, 3, 4294967295, 1, 0, 0, 0), (72, 11, 0, 3, 8, 7, 0), (75, 19, 0, 1, 0, 0, 0)]
theorem pq_72_ok : pq_72.all (fun q => decide ((lk 72 q.1).map enc = some q.2)) = true := by decide +kernel
def pq_109 : List (Nat × EO) := [(0, 1, 0, 1, 0, 0, 0), (1, 20, 0, 3, 5, 218, 0), (4, 1, 0, 1, 0, 0, 0), (5, 3, 199, 3, 0, 0, 0), (8, 16, 0, 2, 0, 0, 0), (10, 11, 0, 3, 9, 0, 2), (13, 1, 0, 1, 0, 0, 0), (14, 3, 1592, 3, 0, 0, 0), (17, 16, 0, 2, 0, 0, 0), (19, 11, 0, 3, 9, 1, 2), (22, 1, 0, 1, 0, 0, 0), (23, 3, 199, 3, 0, 0, 0), (26, 16, 0, 2, 0, 0, 0), (28, 11, 0, 3, 9, 2, 2), (31, 1, 0, 1, 0, 0, 0), (32, 3, 199, 3, 0, 0, 0), (35, 16, 0, 2, 0, 0, 0), (37, 11, 0, 3, 9, 3, 2), (40, 1, 0, 1, 0, 0, 0), (41, 3, 199, 3, 0, 0, 0), (44, 16, 0, 2, 0, 0, 0), (46, 11, 0, 3, 9, 4, 2), (49, 1, 0, 1, 0, 0, 0), (50, 3, 60, 2, 0, 0, 0), (52, 16, 0, 2, 0, 0, 0), (54, 11, 0, 3, 9, 12, 2), (57, 1, 0, 1, 0, 0, 0), (58, 3, 4294967295, 1, 0, 0, 0), (59, 11, 0, 3, 9, 14, 0), (62, 1, 0, 1, 0, 0, 0), (63, 3, 12, 2, 0, 0, 0), (65, 16, 0, 2, 0, 0, 0), (67, 11, 0, 3, 9, 15, 2), (70, 1, 0, 1, 0, 0, 0), (71, 3, 132, 3, 0, 0, 0), (74, 16, 0, 2, 0, 0, 0), (76, 11, 0, 3, 9, 18, 2), (79, 1, 0, 1, 0, 0, 0), (80, 10, 0, 3, 9, 0, 2), (83, 3, 1, 1, 0, 0, 0), (84, 3, 10, 2, 0, 0, 0), (86, 14, 0, 1, 0, 0, 0), (87, 1, 0, 1, 0, 0, 0), (88, 10, 0, 3, 9, 0, 2), (91, 3, 2, 1, 0, 0, 0), (92, 3, 5, 1, 0, 0, 0), (93, 14, 0, 1, 0, 0, 0), (94, 19, 0, 1, 0, 0, 0)]
theorem pq_109_ok : pq_109.all (fun q => decide ((lk 109 q.1).map enc = some q.2)) = true := by decide +kernel
def PP (m : Nat) : List (Nat × EO) := if m = 0 then pq_0 else if m = 3 then pq_3 else if m = 41 then pq_41 else if m = 48 then pq_48 else if m = 57 then pq_57 else if m = 60 then pq_60 else if m = 61 then pq_61 else if m = 63 then pq_63 else if m = 72 then pq_72 else if m = 109 then pq_109 else []
theorem PP_ok {m : Nat} : ∀ q ∈ PP m, (lk m q.1).map enc = some q.2 := by
  unfold PP
  by_cases h0 : m = 0
  · subst h0
    rw [if_pos rfl]
    exact fun q hq => of_decide_eq_true (List.all_eq_true.mp pq_0_ok q hq)
  rw [if_neg h0]
  by_cases h3 : m = 3
  · subst h3
    rw [if_pos rfl]
    exact fun q hq => of_decide_eq_true (List.all_eq_true.mp pq_3_ok q hq)
  rw [if_neg h3]
  by_cases h41 : m = 41
  · subst h41
    rw [if_pos rfl]
    exact fun q hq => of_decide_eq_true (List.all_eq_true.mp pq_41_ok q hq)
  rw [if_neg h41]
  by_cases h48 : m = 48
  · subst h48
    rw [if_pos rfl]
    exact fun q hq => of_decide_eq_true (List.all_eq_true.mp pq_48_ok q hq)
  rw [if_neg h48]
  by_cases h57 : m = 57
  · subst h57
    rw [if_pos rfl]
    exact fun q hq => of_decide_eq_true (List.all_eq_true.mp pq_57_ok q hq)
  rw [if_neg h57]
  by_cases h60 : m = 60
  · subst h60
    rw [if_pos rfl]
    exact fun q hq => of_decide_eq_true (List.all_eq_true.mp pq_60_ok q hq)
  rw [if_neg h60]
  by_cases h61 : m = 61
  · subst h61
    rw [if_pos rfl]
    exact fun q hq => of_decide_eq_true (List.all_eq_true.mp pq_61_ok q hq)
  rw [if_neg h61]
  by_cases h63 : m = 63
  · subst h63
    rw [if_pos rfl]
    exact fun q hq => of_decide_eq_true (List.all_eq_true.mp pq_63_ok q hq)
  rw [if_neg h63]
  by_cases h72 : m = 72
  · subst h72
    rw [if_pos rfl]
    exact fun q hq => of_decide_eq_true (List.all_eq_true.mp pq_72_ok q hq)
  rw [if_neg h72]
  by_cases h109 : m = 109
  · subst h109
    rw [if_pos rfl]
    exact fun q hq => of_decide_eq_true (List.all_eq_true.mp pq_109_ok q hq)
  rw [if_neg h109]
  exact fun q hq => absurd hq List.not_mem_nil
/-- a row carried out -/
def sq (m : Nat) (e : EO) (x : Sx) : Option Sx :=
  let (cd, ar, ln, a, b, c) := e
  let (pc, L, st, k, s, fr, n, kd, σ, lo, db) := x
  if cd = 1 then ldA (pc + 1) L st k s (fr, n, kd, σ, lo, db) ar
  else if cd = 10 then (match st with
    | .ref o :: st' => (match kd o with
      | .inl (ci, nf, fx) => if ci = a ∧ b < nf then nx (pc + 3) L ((fx b).getD (.int (σ o b)) :: st') k s (fr, n, kd, σ, lo, db) else none
      | _ => none)
    | _ => none)
  else if cd = 2 then ldI (pc + 1) L st k s (fr, n, kd, σ, lo, db) ar
  else if cd = 3 then nx (pc + ln) L (.int (Int32.ofNat ar) :: st) k s (fr, n, kd, σ, lo, db)
  else if cd = 4 then stI m (pc + 1) L st k s (fr, n, kd, σ, lo, db) ar
  else if cd = 6 then (match L[ar]? with
    | some (.int v) => if ar < mL m then nx (pc + 3) (wrL m L ar (.int (v + Int32.ofInt 1))) st k s (fr, n, kd, σ, lo, db) else none
    | _ => none)
  else if cd = 7 then nx a L st k s (fr, n, kd, σ, lo, db)
  else if cd = 8 then (match st with
    | .int y :: .int x :: st' => if y ≤ x then nx a L st' k s (fr, n, kd, σ, lo, db) else nx (pc + 3) L st' k s (fr, n, kd, σ, lo, db)
    | _ => none)
  else if cd = 9 then (match st with
    | v :: st' => if v.category = 1 then nx (pc + 1) L (v :: v :: st') k s (fr, n, kd, σ, lo, db) else none
    | _ => none)
  else if cd = 11 then stpH m (.putfield 0, 3, a, b, c) (pc, L, st, k, s, fr, n, kd, σ, lo, db)
  else if cd = 12 then (match st with
    | .int i :: .ref o :: st' => (match kd o with
      | .inr (ti, len, some f) => if 4 ≤ ti ∧ ti < 8 ∧ ixIn i len then (match f i.toNatClampNeg with
        | some r => nx (pc + 1) L (.ref r :: st') k s (fr, n, kd, σ, lo, db)
        | none => none) else none
      | _ => none)
    | _ => none)
  else if cd = 13 then stpH m (.aastore, 1, a, b, c) (pc, L, st, k, s, fr, n, kd, σ, lo, db)
  else if cd = 14 then stpH m (.iastore, 1, a, b, c) (pc, L, st, k, s, fr, n, kd, σ, lo, db)
  else if cd = 15 then stpM m (.new 0, 3, a, b, c) (pc, L, st, k, s, fr, n, kd, σ, lo, db)
  else if cd = 16 then stpM m (.newarray .int, 2, a, b, c) (pc, L, st, k, s, fr, n, kd, σ, lo, db)
  else if cd = 17 then stpM m (.anewarray 0, 3, a, b, c) (pc, L, st, k, s, fr, n, kd, σ, lo, db)
  else if cd = 20 then stpM m (.invokespecial 0, 3, a, b, c) (pc, L, st, k, s, fr, n, kd, σ, lo, db)
  else none
section
variable {m ln a b c pc k s n : Nat} {L : Lc} {st : List Value} {fr : Bool} {kd : Nat → Kd} {σ : Nat → Nat → Int32} {lo : Nat → Nat → Int64} {db : Nat → Nat → UInt64} {x' : Sx}
theorem encV_ok {v : Int32} {l : Nat} (h : sq m ((encV v l).1, (encV v l).2.1, (encV v l).2.2, a, b, c) (pc, L, st, k, s, fr, n, kd, σ, lo, db) = some x') : nx (pc + l) L (.int v :: st) k s (fr, n, kd, σ, lo, db) = some x' := by
  unfold encV at h
  split at h
  · next e =>
    have h : nx (pc + l) L (.int (Int32.ofNat v.toBitVec.toNat) :: st) k s (fr, n, kd, σ, lo, db) = some x' := h
    rwa [e] at h
  · exact (no h).elim
theorem sq_ok {op : Op} (h : sq m (enc op) (pc, L, st, k, s, fr, n, kd, σ, lo, db) = some x') : stp m op (pc, L, st, k, s, fr, n, kd, σ, lo, db) = some x' ∧ plainI op.1 = true := by
  obtain ⟨ins, ln, a, b, c⟩ := op
  cases ins <;> first | exact (no h).elim | skip
  case iconst i => exact ⟨encV_ok (a := a) (b := b) (c := c) (m := m) h, rfl⟩
  case bipush i => exact ⟨encV_ok (a := a) (b := b) (c := c) (m := m) h, rfl⟩
  case sipush i => exact ⟨encV_ok (a := a) (b := b) (c := c) (m := m) h, rfl⟩
  case goto i => exact ⟨h, rfl⟩
  case iload_n i => exact ⟨(orE_n (a := ldI (pc + 1) L st k s (fr, n, kd, σ, lo, db) i)).trans h, rfl⟩
  case aload_n i => exact ⟨(orE_n (a := ldA (pc + 1) L st k s (fr, n, kd, σ, lo, db) i)).trans h, rfl⟩
  case istore_n i => exact ⟨(orE_n (a := stI m (pc + 1) L st k s (fr, n, kd, σ, lo, db) i)).trans h, rfl⟩
  case iinc i z =>
    by_cases hz : z = 1 ∧ ln = 3
    · have h : sq m ((if z = 1 ∧ ln = 3 then ((6, i, 3) : Nat × Nat × Nat) else (0, 0, 0)).1, (if z = 1 ∧ ln = 3 then ((6, i, 3) : Nat × Nat × Nat) else (0, 0, 0)).2.1, (if z = 1 ∧ ln = 3 then ((6, i, 3) : Nat × Nat × Nat) else (0, 0, 0)).2.2, a, b, c) (pc, L, st, k, s, fr, n, kd, σ, lo, db) = some x' := h
      rw [if_pos hz] at h
      obtain ⟨rfl, rfl⟩ := hz
      have h : (match L[i]? with
        | some (.int v) => if i < mL m then nx (pc + 3) (wrL m L i (.int (v + Int32.ofInt 1))) st k s (fr, n, kd, σ, lo, db) else none
        | _ => none) = some x' := h
      refine ⟨?_, rfl⟩
      show orE (stpL m (.iinc i 1, 3, a, b, c) (pc, L, st, k, s, fr, n, kd, σ, lo, db)) none = _
      rw [orE_n]
      simp only [stpL]
      split at h
      · next v hv =>
        split at h
        · next hi => simp only [hv]; rw [if_pos ⟨hi, trivial⟩]; exact h
        · exact (no h).elim
      · exact (no h).elim
    · have h : sq m ((if z = 1 ∧ ln = 3 then ((6, i, 3) : Nat × Nat × Nat) else (0, 0, 0)).1, (if z = 1 ∧ ln = 3 then ((6, i, 3) : Nat × Nat × Nat) else (0, 0, 0)).2.1, (if z = 1 ∧ ln = 3 then ((6, i, 3) : Nat × Nat × Nat) else (0, 0, 0)).2.2, a, b, c) (pc, L, st, k, s, fr, n, kd, σ, lo, db) = some x' := h
      rw [if_neg hz] at h
      exact (no h).elim
  case if_icmp q off =>
    cases q <;> first | exact (no h).elim | skip
    rcases st with _ | ⟨v, _ | ⟨w, st⟩⟩
    · exact (no h).elim
    · cases v <;> exact (no h).elim
    · cases v <;> first | exact (no h).elim | skip
      all_goals cases w <;> first | exact (no h).elim | skip
      exact ⟨(orE_n (a := stpB (.if_icmp .ge off, ln, a, b, c) (pc, L, _ :: _ :: st, k, s, fr, n, kd, σ, lo, db))).trans h, rfl⟩
  case dup =>
    rcases st with _ | ⟨v, st⟩
    · exact (no h).elim
    · exact ⟨(orE_n (a := if v.category = 1 then nx (pc + 1) L (v :: v :: st) k s (fr, n, kd, σ, lo, db) else none)).trans h, rfl⟩
  case getfield i =>
    rcases st with _ | ⟨v, st⟩
    · exact (no h).elim
    · cases v <;> first | exact (no h).elim | skip
      exact ⟨(orE_n (a := stpH m (.getfield i, ln, a, b, c) (pc, L, _ :: st, k, s, fr, n, kd, σ, lo, db))).trans h, rfl⟩
  case putfield i =>
    rcases st with _ | ⟨v, _ | ⟨w, st⟩⟩
    · exact (no h).elim
    · cases v <;> exact (no h).elim
    · cases v <;> first | exact (no h).elim | skip
      all_goals cases w <;> first | exact (no h).elim | skip
      all_goals exact ⟨(orE_n (a := stpH m (.putfield i, ln, a, b, c) (pc, L, _ :: _ :: st, k, s, fr, n, kd, σ, lo, db))).trans h, rfl⟩
  case aaload =>
    rcases st with _ | ⟨v, _ | ⟨w, st⟩⟩
    · exact (no h).elim
    · cases v <;> exact (no h).elim
    · cases v <;> first | exact (no h).elim | skip
      all_goals cases w <;> first | exact (no h).elim | skip
      all_goals exact ⟨(orE_n (a := stpH m (.aaload, ln, a, b, c) (pc, L, _ :: _ :: st, k, s, fr, n, kd, σ, lo, db))).trans h, rfl⟩
  case aastore => exact ⟨(orE_n (a := stpH m (.aastore, ln, a, b, c) (pc, L, st, k, s, fr, n, kd, σ, lo, db))).trans h, rfl⟩
  case iastore => exact ⟨(orE_n (a := stpH m (.iastore, ln, a, b, c) (pc, L, st, k, s, fr, n, kd, σ, lo, db))).trans h, rfl⟩
  case new i => exact ⟨h, rfl⟩
  case newarray t =>
    rcases st with _ | ⟨v, st⟩
    · exact (no h).elim
    · cases v <;> first | exact (no h).elim | skip
      exact ⟨h, rfl⟩
  case anewarray t =>
    rcases st with _ | ⟨v, st⟩
    · exact (no h).elim
    · cases v <;> first | exact (no h).elim | skip
      exact ⟨h, rfl⟩
  case invokespecial i =>
    by_cases ha : a = 5
    · subst ha
      rcases st with _ | ⟨v, st⟩
      · exact (no h).elim
      · cases v <;> first | exact (no h).elim | skip
        exact ⟨h, rfl⟩
    · have h : sq m ((if a = 5 then ((20, 0, 3) : Nat × Nat × Nat) else (18, 0, 3)).1, (if a = 5 then ((20, 0, 3) : Nat × Nat × Nat) else (18, 0, 3)).2.1, (if a = 5 then ((20, 0, 3) : Nat × Nat × Nat) else (18, 0, 3)).2.2, a, b, c) (pc, L, st, k, s, fr, n, kd, σ, lo, db) = some x' := h
      rw [if_neg ha] at h
      exact (no h).elim
theorem encV_ne {v : Int32} {l q : Nat} (h3 : 3 ≠ q) (h0 : 0 ≠ q) : (encV v l).1 ≠ q := by
  unfold encV
  split
  · exact h3
  · exact h0
theorem enc18 {op : Op} (h : (encI op).1 = 18) : ∃ i, op.1 = .invokespecial i ∧ op.2.2.1 ≠ 5 := by
  obtain ⟨ins, ln, a, b, c⟩ := op
  cases ins <;> first | exact absurd h (Nat.ne_of_beq_eq_false rfl) | exact absurd h (encV_ne (by decide) (by decide)) | skip
  case iinc i z =>
    have h : (if z = 1 ∧ ln = 3 then ((6, i, 3) : Nat × Nat × Nat) else (0, 0, 0)).1 = 18 := h
    split at h
    · exact absurd h (Nat.ne_of_beq_eq_false rfl)
    · exact absurd h (Nat.ne_of_beq_eq_false rfl)
  case if_icmp q off => cases q <;> exact absurd h (Nat.ne_of_beq_eq_false rfl)
  case invokespecial i =>
    have h : (if a = 5 then ((20, 0, 3) : Nat × Nat × Nat) else (18, 0, 3)).1 = 18 := h
    split at h
    · exact absurd h (Nat.ne_of_beq_eq_false rfl)
    · next ha => exact ⟨i, rfl, ha⟩
theorem enc19 {op : Op} (h : (encI op).1 = 19) : op.1 = .return_ := by
  obtain ⟨ins, ln, a, b, c⟩ := op
  cases ins <;> first | exact absurd h (Nat.ne_of_beq_eq_false rfl) | exact absurd h (encV_ne (by decide) (by decide)) | skip
  case iinc i z =>
    have h : (if z = 1 ∧ ln = 3 then ((6, i, 3) : Nat × Nat × Nat) else (0, 0, 0)).1 = 19 := h
    split at h
    · exact absurd h (Nat.ne_of_beq_eq_false rfl)
    · exact absurd h (Nat.ne_of_beq_eq_false rfl)
  case if_icmp q off => cases q <;> exact absurd h (Nat.ne_of_beq_eq_false rfl)
  case invokespecial i =>
    have h : (if a = 5 then ((20, 0, 3) : Nat × Nat × Nat) else (18, 0, 3)).1 = 19 := h
    split at h
    · exact absurd h (Nat.ne_of_beq_eq_false rfl)
    · exact absurd h (Nat.ne_of_beq_eq_false rfl)
  case return_ => rfl
theorem sp_no {i : Nat} {x : Sx} (ha : a ≠ 5) : stp m (.invokespecial i, ln, a, b, c) x = none := by
  obtain ⟨pc, L, st, k, s, fr, n, kd, σ, lo, db⟩ := x
  rcases st with _ | ⟨v, st⟩
  · rfl
  · cases v <;> first | rfl | skip
    exact if_neg (fun e => ha e.1)
def seekP (P : List (Nat × EO)) (pc : Nat) : List (Nat × EO) := match P with
  | [] => []
  | q :: P' => if q.1 = pc then q :: P' else seekP P' pc
def seek (P R : List (Nat × EO)) (pc : Nat) : List (Nat × EO) := match R with
  | [] => seekP P pc
  | q :: R' => if q.1 = pc then q :: R' else seekP P pc
theorem seekP_ok {pc : Nat} {q : Nat × EO} {R' : List (Nat × EO)} : ∀ {P : List (Nat × EO)}, seekP P pc = q :: R' → q.1 = pc ∧ q ∈ P ∧ ∀ z ∈ R', z ∈ P
  | [], h => by cases h
  | p :: P, h => by
    unfold seekP at h
    split at h
    · next e =>
      cases h
      exact ⟨e, List.mem_cons_self, fun z hz => List.mem_cons_of_mem _ hz⟩
    · obtain ⟨h1, h2, h3⟩ := seekP_ok h
      exact ⟨h1, List.mem_cons_of_mem _ h2, fun z hz => List.mem_cons_of_mem _ (h3 z hz)⟩
theorem seek_ok {P R R' : List (Nat × EO)} {pc : Nat} {q : Nat × EO} (h : seek P R pc = q :: R') (hR : ∀ z ∈ R, z ∈ P) : q.1 = pc ∧ q ∈ P ∧ ∀ z ∈ R', z ∈ P := by
  unfold seek at h
  split at h
  · exact seekP_ok h
  · split at h
    · next e =>
      cases h
      exact ⟨e, hR _ List.mem_cons_self, fun z hz => hR _ (List.mem_cons_of_mem _ hz)⟩
    · exact seekP_ok h
/-- the rows carried out, one behind another -/
def evq : Nat → Nat → List (Nat × EO) → Sx → Option Me
  | 0, _, _, _ => none
  | n + 1, m, R, x => match seek (PP m) R x.1 with
    | [] => none
    | q :: R' =>
      if q.2.1 = 18 then (match cal m (.invokespecial 0, 3, q.2.2.2.2.1, q.2.2.2.2.2.1, q.2.2.2.2.2.2) x with
        | some (c, as, st') => (match evq n c [] (stx c as x.2.2.2.2.2) with
          | some μ' => evq n m R' (x.1 + 3, x.2.1, st', x.2.2.2.1 + mC c, x.2.2.2.2.1 + mS c, μ')
          | none => none)
        | none => none)
      else if q.2.1 = 19 then (match fin m (.return_, 1, 0, 0, 0) x with
        | some (.inl none, μ') => some μ'
        | _ => none)
      else (match sq m q.2 x with
        | some x' => evq n m R' x'
        | none => none)
theorem evq_ok : ∀ (n m : Nat) (R : List (Nat × EO)) (x : Sx) (μ' : Me), evq n m R x = some μ' → (∀ z ∈ R, z ∈ PP m) → ev1 n m x = some (.inl none, μ') := by
  intro n
  induction n with
  | zero => intro m R x μ' h; cases h
  | succ n ih =>
    intro m R x μ' h hR
    simp only [evq] at h
    split at h
    · cases h
    · next q R' hs =>
      obtain ⟨s1, s2, s3⟩ := seek_ok hs hR
      have hq := PP_ok q s2
      rw [s1] at hq
      obtain ⟨op, ho, he⟩ := Option.map_eq_some_iff.mp hq
      simp only [ev1, ho]
      split at h
      · next h18 =>
        rw [← he] at h18
        obtain ⟨i, hi, ha⟩ := enc18 h18
        obtain ⟨ins, ln, a, b, c0⟩ := op
        dsimp only at hi ha
        subst hi
        split at h
        · next c as st' hc =>
          rw [← he] at hc
          have hc : cal m (.invokespecial i, ln, a, b, c0) x = some (c, as, st') := hc
          split at h
          · next μ1 h1 =>
            have h1 := ih c [] _ _ h1 (fun z hz => absurd hz List.not_mem_nil)
            simp only [sp_no ha, hc, h1]
            exact ih m R' _ μ' h s3
          · cases h
        · cases h
      · split at h
        · next h19 =>
          rw [← he] at h19
          have hi := enc19 h19
          obtain ⟨ins, ln, a, b, c0⟩ := op
          dsimp only at hi
          subst hi
          split at h
          · next μ1 hf =>
            cases h
            obtain ⟨pc, L, st, k, s, fr, N, kd, σ, lo, db⟩ := x
            have e1 : stp m (.return_, ln, a, b, c0) (pc, L, st, k, s, fr, N, kd, σ, lo, db) = none := rfl
            have e2 : cal m (.return_, ln, a, b, c0) (pc, L, st, k, s, fr, N, kd, σ, lo, db) = none := rfl
            simp only [e1, e2]
            rcases st with _ | ⟨v, st⟩
            · exact hf
            · exact (nomatch (hf : (none : Option (Ou × Me)) = some _))
          · cases h
        · split at h
          · next x1 hx =>
            rw [← he] at hx
            obtain ⟨e1, e2⟩ := sq_ok hx
            have e1 : stp m op x = some x1 := e1
            simp only [e1, e2, if_true]
            exact ih m R' _ μ' h s3
          · cases h
end

