/-! THE CLASS: how many bits, a byte at a time -/
set_option maxRecDepth 16384
theorem and_blk (i a b c d : Nat) (hb : b < 2 ^ i) (hd : d < 2 ^ i) : (2 ^ i * a + b) &&& (2 ^ i * c + d) = 2 ^ i * (a &&& c) + (b &&& d) := by
  apply Nat.eq_of_testBit_eq
  intro j
  have hbd : b &&& d < 2 ^ i := Nat.and_lt_two_pow b hd
  rw [Nat.testBit_and, Nat.testBit_two_pow_mul_add a hb, Nat.testBit_two_pow_mul_add c hd, Nat.testBit_two_pow_mul_add (a &&& c) hbd]
  by_cases h : j < i
  · rw [if_pos h, if_pos h, if_pos h, Nat.testBit_and]
  · rw [if_neg h, if_neg h, if_neg h, Nat.testBit_and]
def A8 (r : Nat) : Nat := r - (r / 2 &&& 85)
def B8 (r : Nat) : Nat := (r &&& 51) + (r / 4 &&& 51)
def T8 (r : Nat) : Nat := (B8 (A8 r) + B8 (A8 r) / 16) % 16
theorem bA (m q r : Nat) (hr : r < 256) : (256 * q + r) - ((256 * q + r) / 2 &&& (256 * m + 85)) = 256 * (q - (q / 2 &&& m)) + A8 r := by
  have e : (256 * q + r) / 2 = 2 ^ 8 * (q / 2) + (128 * (q % 2) + r / 2) := by omega
  have t : ∀ a : Fin 2, ∀ b : Fin 128, (128 * a.1 + b.1) &&& 85 = b.1 &&& 85 := by decide +kernel
  have t := t ⟨q % 2, by omega⟩ ⟨r / 2, by omega⟩
  dsimp only at t
  rw [e, show 256 * m + 85 = 2 ^ 8 * m + 85 by omega, and_blk 8 _ _ _ _ (by omega) (by decide), t]
  have l1 : q / 2 &&& m ≤ q / 2 := Nat.and_le_left
  have l2 : r / 2 &&& 85 ≤ r / 2 := Nat.and_le_left
  unfold A8
  generalize q / 2 &&& m = x at *
  generalize r / 2 &&& 85 = y at *
  clear t e
  omega
theorem bB (m q r : Nat) (hr : r < 256) : ((256 * q + r) &&& (256 * m + 51)) + ((256 * q + r) / 4 &&& (256 * m + 51)) = 256 * ((q &&& m) + (q / 4 &&& m)) + B8 r := by
  have e : (256 * q + r) / 4 = 2 ^ 8 * (q / 4) + (64 * (q % 4) + r / 4) := by omega
  have t : ∀ a : Fin 4, ∀ b : Fin 64, (64 * a.1 + b.1) &&& 51 = b.1 &&& 51 := by decide +kernel
  have t := t ⟨q % 4, by omega⟩ ⟨r / 4, by omega⟩
  dsimp only at t
  rw [e, show 256 * m + 51 = 2 ^ 8 * m + 51 by omega, show 256 * q + r = 2 ^ 8 * q + r by omega, and_blk 8 _ _ _ _ (by omega) (by decide), and_blk 8 _ _ _ _ (by omega) (by decide), t]
  unfold B8
  omega
theorem bC (m q r : Nat) (h : 16 * (q % 16) + r + r / 16 < 256) : ((256 * q + r) + (256 * q + r) / 16) &&& (256 * m + 15) = 256 * ((q + q / 16) &&& m) + (r + r / 16) % 16 := by
  have e : (256 * q + r) + (256 * q + r) / 16 = 2 ^ 8 * (q + q / 16) + (16 * (q % 16) + r + r / 16) := by omega
  have t : (16 * (q % 16) + r + r / 16) &&& 15 = (16 * (q % 16) + r + r / 16) % 16 := Nat.and_two_pow_sub_one_eq_mod _ 4
  rw [e, show 256 * m + 15 = 2 ^ 8 * m + 15 by omega, and_blk 8 _ _ _ _ h (by decide), t]
  omega
def bcN (n : Nat) : Nat :=
  let a := n - (n / 2 &&& 1431655765)
  let b := (a &&& 858993459) + (a / 4 &&& 858993459)
  let c := (b + b / 16) &&& 252645135
  let d := c + c / 256
  let e := d + d / 65536
  e &&& 63
theorem bc_t : ∀ r : Fin 256, r.1 - (r.1 / 2 &&& 21845) = A8 r.1 ∧ A8 r.1 < 256 ∧ (A8 r.1 &&& 13107) + (A8 r.1 / 4 &&& 13107) = B8 (A8 r.1) ∧ B8 (A8 r.1) ≤ 68 ∧ B8 (A8 r.1) % 16 ≤ 4 ∧ (B8 (A8 r.1) + B8 (A8 r.1) / 16) &&& 3855 = T8 r.1 ∧ T8 r.1 ≤ 8 ∧ T8 r.1 = r.1 % 2 + r.1 / 2 % 2 + r.1 / 4 % 2 + r.1 / 8 % 2 + r.1 / 16 % 2 + r.1 / 32 % 2 + r.1 / 64 % 2 + r.1 / 128 % 2 := by decide +kernel
theorem bc_n {r0 r1 r2 : Nat} (h0 : r0 < 256) (h1 : r1 < 256) (h2 : r2 < 256) : bcN (256 * (256 * r2 + r1) + r0) = T8 r0 + T8 r1 + T8 r2 := by
  obtain ⟨p1, p2, p3, p4, p5, p6, p7, -⟩ := bc_t ⟨r0, h0⟩
  obtain ⟨q1, q2, q3, q4, q5, q6, q7, -⟩ := bc_t ⟨r1, h1⟩
  obtain ⟨t1, t2, t3, t4, t5, t6, t7, -⟩ := bc_t ⟨r2, h2⟩
  dsimp only at *
  unfold bcN
  dsimp only
  rw [show (1431655765 : Nat) = 256 * 5592405 + 85 from rfl, bA _ _ _ h0, show (5592405 : Nat) = 256 * 21845 + 85 from rfl, bA _ _ _ h1, t1]
  rw [show (858993459 : Nat) = 256 * 3355443 + 51 from rfl, bB _ _ _ p2, show (3355443 : Nat) = 256 * 13107 + 51 from rfl, bB _ _ _ q2, t3]
  clear p1 p2 p3 q1 q2 q3 t1 t2 t3
  have ep : (B8 (A8 r0) + B8 (A8 r0) / 16) % 16 = T8 r0 := rfl
  have eq : (B8 (A8 r1) + B8 (A8 r1) / 16) % 16 = T8 r1 := rfl
  generalize B8 (A8 r0) = b0 at *
  generalize B8 (A8 r1) = b1 at *
  generalize B8 (A8 r2) = b2 at *
  rw [show (252645135 : Nat) = 256 * 986895 + 15 from rfl, bC _ _ _ (by omega), show (986895 : Nat) = 256 * 3855 + 15 from rfl, bC _ _ _ (by omega), t6, ep, eq]
  clear ep eq p4 p5 p6 q4 q5 q6 t4 t5 t6
  generalize T8 r0 = c0 at *
  generalize T8 r1 = c1 at *
  generalize T8 r2 = c2 at *
  have e63 : ∀ y : Nat, y &&& 63 = y % 64 := fun y => Nat.and_two_pow_sub_one_eq_mod y 6
  have d1 : (256 * (256 * c2 + c1) + c0) / 256 = 256 * c2 + c1 := by omega
  have d2 : (256 * (256 * c2 + c1) + c0 + (256 * c2 + c1)) / 65536 = c2 := by omega
  rw [e63, d1, d2]
  clear d1 d2
  omega

theorem bcN_eq (n : Nat) (h : n < 16777216) : bcN n = n % 2 + n / 2 % 2 + n / 4 % 2 + n / 8 % 2 + n / 16 % 2 + n / 32 % 2 + n / 64 % 2 + n / 128 % 2 + n / 256 % 2 + n / 512 % 2 + n / 1024 % 2 + n / 2048 % 2 + n / 4096 % 2 + n / 8192 % 2 + n / 16384 % 2 + n / 32768 % 2 + n / 65536 % 2 + n / 131072 % 2 + n / 262144 % 2 + n / 524288 % 2 + n / 1048576 % 2 + n / 2097152 % 2 + n / 4194304 % 2 + n / 8388608 % 2 := by
  have hn : n = 256 * (256 * (n / 65536) + n / 256 % 256) + n % 256 := by omega
  have a0 := (bc_t ⟨n % 256, by omega⟩).2.2.2.2.2.2.2
  have a1 := (bc_t ⟨n / 256 % 256, by omega⟩).2.2.2.2.2.2.2
  have a2 := (bc_t ⟨n / 65536, by omega⟩).2.2.2.2.2.2.2
  dsimp only at a0 a1 a2
  have e := bc_n (r0 := n % 256) (r1 := n / 256 % 256) (r2 := n / 65536) (by omega) (by omega) (by omega)
  rw [← hn] at e
  rw [e, a0, a1, a2]
  clear e a0 a1 a2 hn
  have g : ∀ m : Nat, m % 256 % 2 = m % 2 ∧ m % 256 / 2 % 2 = m / 2 % 2 ∧ m % 256 / 4 % 2 = m / 4 % 2 ∧ m % 256 / 8 % 2 = m / 8 % 2 ∧ m % 256 / 16 % 2 = m / 16 % 2 ∧ m % 256 / 32 % 2 = m / 32 % 2 ∧ m % 256 / 64 % 2 = m / 64 % 2 ∧ m % 256 / 128 % 2 = m / 128 % 2 := fun m => ⟨by omega, by omega, by omega, by omega, by omega, by omega, by omega, by omega⟩
  obtain ⟨u0, u1, u2, u3, u4, u5, u6, u7⟩ := g n
  obtain ⟨v0, v1, v2, v3, v4, v5, v6, v7⟩ := g (n / 256)
  rw [u0, u1, u2, u3, u4, u5, u6, u7, v0, v1, v2, v3, v4, v5, v6, v7]
  simp only [Nat.div_div_eq_div_mul, Nat.reduceMul, Nat.add_assoc]
