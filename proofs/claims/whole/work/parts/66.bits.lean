/-! THE CLASS: how many bits -/
set_option maxRecDepth 16384
theorem and_blk (i a b c d : Nat) (hb : b < 2 ^ i) (hd : d < 2 ^ i) : (2 ^ i * a + b) &&& (2 ^ i * c + d) = 2 ^ i * (a &&& c) + (b &&& d) := by
  apply Nat.eq_of_testBit_eq
  intro j
  have hbd : b &&& d < 2 ^ i := Nat.and_lt_two_pow b hd
  rw [Nat.testBit_and, Nat.testBit_two_pow_mul_add a hb, Nat.testBit_two_pow_mul_add c hd, Nat.testBit_two_pow_mul_add (a &&& c) hbd]
  by_cases h : j < i
  · rw [if_pos h, if_pos h, if_pos h, Nat.testBit_and]
  · rw [if_neg h, if_neg h, if_neg h, Nat.testBit_and]
theorem and_s5 (y m : Nat) : y &&& (4 * m + 1) = 4 * (y / 4 &&& m) + y % 2 := by
  have h := and_blk 2 (y / 4) (y % 4) m 1 (by omega) (by decide)
  rw [show 2 ^ 2 * (y / 4) + y % 4 = y by omega, show 2 ^ 2 * m + 1 = 4 * m + 1 by omega] at h
  rw [h, Nat.and_one_is_mod]
  omega
theorem and_s3 (y m : Nat) : y &&& (16 * m + 3) = 16 * (y / 16 &&& m) + y % 4 := by
  have h := and_blk 4 (y / 16) (y % 16) m 3 (by omega) (by decide)
  have e : y % 16 &&& 3 = y % 16 % 4 := Nat.and_two_pow_sub_one_eq_mod (y % 16) 2
  rw [show 2 ^ 4 * (y / 16) + y % 16 = y by omega, show 2 ^ 4 * m + 3 = 16 * m + 3 by omega, e] at h
  rw [h]
  omega
theorem and_sf (y m : Nat) : y &&& (256 * m + 15) = 256 * (y / 256 &&& m) + y % 16 := by
  have h := and_blk 8 (y / 256) (y % 256) m 15 (by omega) (by decide)
  have e : y % 256 &&& 15 = y % 256 % 16 := Nat.and_two_pow_sub_one_eq_mod (y % 256) 4
  rw [show 2 ^ 8 * (y / 256) + y % 256 = y by omega, show 2 ^ 8 * m + 15 = 256 * m + 15 by omega, e] at h
  rw [h]
  omega
theorem p5 (y : Nat) (h : y < 16777216) : y &&& 1431655765 = y % 2 + 4 * (y / 4 % 2) + 16 * (y / 16 % 2) + 64 * (y / 64 % 2) + 256 * (y / 256 % 2) + 1024 * (y / 1024 % 2) + 4096 * (y / 4096 % 2) + 16384 * (y / 16384 % 2) + 65536 * (y / 65536 % 2) + 262144 * (y / 262144 % 2) + 1048576 * (y / 1048576 % 2) + 4194304 * (y / 4194304 % 2) := by
  have e0 : y / 4 / 4 / 4 / 4 / 4 / 4 / 4 / 4 / 4 / 4 / 4 / 4 = 0 := by omega
  rw [show (1431655765 : Nat) = 4 * 357913941 + 1 from rfl, and_s5, show (357913941 : Nat) = 4 * 89478485 + 1 from rfl, and_s5, show (89478485 : Nat) = 4 * 22369621 + 1 from rfl, and_s5, show (22369621 : Nat) = 4 * 5592405 + 1 from rfl, and_s5, show (5592405 : Nat) = 4 * 1398101 + 1 from rfl, and_s5, show (1398101 : Nat) = 4 * 349525 + 1 from rfl, and_s5, show (349525 : Nat) = 4 * 87381 + 1 from rfl, and_s5, show (87381 : Nat) = 4 * 21845 + 1 from rfl, and_s5, show (21845 : Nat) = 4 * 5461 + 1 from rfl, and_s5, show (5461 : Nat) = 4 * 1365 + 1 from rfl, and_s5, show (1365 : Nat) = 4 * 341 + 1 from rfl, and_s5, show (341 : Nat) = 4 * 85 + 1 from rfl, and_s5, e0, Nat.zero_and]
  omega
theorem p3 (y : Nat) (h : y < 16777216) : y &&& 858993459 = y % 4 + 16 * (y / 16 % 4) + 256 * (y / 256 % 4) + 4096 * (y / 4096 % 4) + 65536 * (y / 65536 % 4) + 1048576 * (y / 1048576 % 4) := by
  have e0 : y / 16 / 16 / 16 / 16 / 16 / 16 = 0 := by omega
  rw [show (858993459 : Nat) = 16 * 53687091 + 3 from rfl, and_s3, show (53687091 : Nat) = 16 * 3355443 + 3 from rfl, and_s3, show (3355443 : Nat) = 16 * 209715 + 3 from rfl, and_s3, show (209715 : Nat) = 16 * 13107 + 3 from rfl, and_s3, show (13107 : Nat) = 16 * 819 + 3 from rfl, and_s3, show (819 : Nat) = 16 * 51 + 3 from rfl, and_s3, e0, Nat.zero_and]
  omega
theorem pf (y : Nat) (h : y < 16777216) : y &&& 252645135 = y % 16 + 256 * (y / 256 % 16) + 65536 * (y / 65536 % 16) := by
  have e0 : y / 256 / 256 / 256 = 0 := by omega
  rw [show (252645135 : Nat) = 256 * 986895 + 15 from rfl, and_sf, show (986895 : Nat) = 256 * 3855 + 15 from rfl, and_sf, show (3855 : Nat) = 256 * 15 + 15 from rfl, and_sf, e0, Nat.zero_and]
  omega
def bcN (n : Nat) : Nat :=
  let a := n - (n / 2 &&& 1431655765)
  let b := (a &&& 858993459) + (a / 4 &&& 858993459)
  let c := (b + b / 16) &&& 252645135
  let d := c + c / 256
  let e := d + d / 65536
  e &&& 63
theorem bcN_eq (n : Nat) (h : n < 16777216) : bcN n = n % 2 + n / 2 % 2 + n / 4 % 2 + n / 8 % 2 + n / 16 % 2 + n / 32 % 2 + n / 64 % 2 + n / 128 % 2 + n / 256 % 2 + n / 512 % 2 + n / 1024 % 2 + n / 2048 % 2 + n / 4096 % 2 + n / 8192 % 2 + n / 16384 % 2 + n / 32768 % 2 + n / 65536 % 2 + n / 131072 % 2 + n / 262144 % 2 + n / 524288 % 2 + n / 1048576 % 2 + n / 2097152 % 2 + n / 4194304 % 2 + n / 8388608 % 2 := by
  unfold bcN
  dsimp only
  have q5 := p5 (n / 2) (by omega)
  have ea : n - (n / 2 &&& 1431655765) = (n % 2 + n / 2 % 2) + 4 * (n / 4 % 2 + n / 8 % 2) + 16 * (n / 16 % 2 + n / 32 % 2) + 64 * (n / 64 % 2 + n / 128 % 2) + 256 * (n / 256 % 2 + n / 512 % 2) + 1024 * (n / 1024 % 2 + n / 2048 % 2) + 4096 * (n / 4096 % 2 + n / 8192 % 2) + 16384 * (n / 16384 % 2 + n / 32768 % 2) + 65536 * (n / 65536 % 2 + n / 131072 % 2) + 262144 * (n / 262144 % 2 + n / 524288 % 2) + 1048576 * (n / 1048576 % 2 + n / 2097152 % 2) + 4194304 * (n / 4194304 % 2 + n / 8388608 % 2) := by
    rw [q5]
    omega
  rw [ea]
  have h0 : n % 2 < 2 := Nat.mod_lt _ (by decide)
  have h1 : n / 2 % 2 < 2 := Nat.mod_lt _ (by decide)
  have h2 : n / 4 % 2 < 2 := Nat.mod_lt _ (by decide)
  have h3 : n / 8 % 2 < 2 := Nat.mod_lt _ (by decide)
  have h4 : n / 16 % 2 < 2 := Nat.mod_lt _ (by decide)
  have h5 : n / 32 % 2 < 2 := Nat.mod_lt _ (by decide)
  have h6 : n / 64 % 2 < 2 := Nat.mod_lt _ (by decide)
  have h7 : n / 128 % 2 < 2 := Nat.mod_lt _ (by decide)
  have h8 : n / 256 % 2 < 2 := Nat.mod_lt _ (by decide)
  have h9 : n / 512 % 2 < 2 := Nat.mod_lt _ (by decide)
  have h10 : n / 1024 % 2 < 2 := Nat.mod_lt _ (by decide)
  have h11 : n / 2048 % 2 < 2 := Nat.mod_lt _ (by decide)
  have h12 : n / 4096 % 2 < 2 := Nat.mod_lt _ (by decide)
  have h13 : n / 8192 % 2 < 2 := Nat.mod_lt _ (by decide)
  have h14 : n / 16384 % 2 < 2 := Nat.mod_lt _ (by decide)
  have h15 : n / 32768 % 2 < 2 := Nat.mod_lt _ (by decide)
  have h16 : n / 65536 % 2 < 2 := Nat.mod_lt _ (by decide)
  have h17 : n / 131072 % 2 < 2 := Nat.mod_lt _ (by decide)
  have h18 : n / 262144 % 2 < 2 := Nat.mod_lt _ (by decide)
  have h19 : n / 524288 % 2 < 2 := Nat.mod_lt _ (by decide)
  have h20 : n / 1048576 % 2 < 2 := Nat.mod_lt _ (by decide)
  have h21 : n / 2097152 % 2 < 2 := Nat.mod_lt _ (by decide)
  have h22 : n / 4194304 % 2 < 2 := Nat.mod_lt _ (by decide)
  have h23 : n / 8388608 % 2 < 2 := Nat.mod_lt _ (by decide)
  generalize n % 2 = x0 at *
  generalize n / 2 % 2 = x1 at *
  generalize n / 4 % 2 = x2 at *
  generalize n / 8 % 2 = x3 at *
  generalize n / 16 % 2 = x4 at *
  generalize n / 32 % 2 = x5 at *
  generalize n / 64 % 2 = x6 at *
  generalize n / 128 % 2 = x7 at *
  generalize n / 256 % 2 = x8 at *
  generalize n / 512 % 2 = x9 at *
  generalize n / 1024 % 2 = x10 at *
  generalize n / 2048 % 2 = x11 at *
  generalize n / 4096 % 2 = x12 at *
  generalize n / 8192 % 2 = x13 at *
  generalize n / 16384 % 2 = x14 at *
  generalize n / 32768 % 2 = x15 at *
  generalize n / 65536 % 2 = x16 at *
  generalize n / 131072 % 2 = x17 at *
  generalize n / 262144 % 2 = x18 at *
  generalize n / 524288 % 2 = x19 at *
  generalize n / 1048576 % 2 = x20 at *
  generalize n / 2097152 % 2 = x21 at *
  generalize n / 4194304 % 2 = x22 at *
  generalize n / 8388608 % 2 = x23 at *
  clear ea q5
  have q3 := p3 ((x0 + x1) + 4 * (x2 + x3) + 16 * (x4 + x5) + 64 * (x6 + x7) + 256 * (x8 + x9) + 1024 * (x10 + x11) + 4096 * (x12 + x13) + 16384 * (x14 + x15) + 65536 * (x16 + x17) + 262144 * (x18 + x19) + 1048576 * (x20 + x21) + 4194304 * (x22 + x23)) (by omega)
  have q3b := p3 (((x0 + x1) + 4 * (x2 + x3) + 16 * (x4 + x5) + 64 * (x6 + x7) + 256 * (x8 + x9) + 1024 * (x10 + x11) + 4096 * (x12 + x13) + 16384 * (x14 + x15) + 65536 * (x16 + x17) + 262144 * (x18 + x19) + 1048576 * (x20 + x21) + 4194304 * (x22 + x23)) / 4) (by omega)
  have eb : ((x0 + x1) + 4 * (x2 + x3) + 16 * (x4 + x5) + 64 * (x6 + x7) + 256 * (x8 + x9) + 1024 * (x10 + x11) + 4096 * (x12 + x13) + 16384 * (x14 + x15) + 65536 * (x16 + x17) + 262144 * (x18 + x19) + 1048576 * (x20 + x21) + 4194304 * (x22 + x23) &&& 858993459) + (((x0 + x1) + 4 * (x2 + x3) + 16 * (x4 + x5) + 64 * (x6 + x7) + 256 * (x8 + x9) + 1024 * (x10 + x11) + 4096 * (x12 + x13) + 16384 * (x14 + x15) + 65536 * (x16 + x17) + 262144 * (x18 + x19) + 1048576 * (x20 + x21) + 4194304 * (x22 + x23)) / 4 &&& 858993459) = (x0 + x1 + x2 + x3) + 16 * (x4 + x5 + x6 + x7) + 256 * (x8 + x9 + x10 + x11) + 4096 * (x12 + x13 + x14 + x15) + 65536 * (x16 + x17 + x18 + x19) + 1048576 * (x20 + x21 + x22 + x23) := by
    rw [q3, q3b]
    omega
  rw [eb]
  clear q3 q3b eb
  have qf := pf ((x0 + x1 + x2 + x3) + 16 * (x4 + x5 + x6 + x7) + 256 * (x8 + x9 + x10 + x11) + 4096 * (x12 + x13 + x14 + x15) + 65536 * (x16 + x17 + x18 + x19) + 1048576 * (x20 + x21 + x22 + x23) + ((x0 + x1 + x2 + x3) + 16 * (x4 + x5 + x6 + x7) + 256 * (x8 + x9 + x10 + x11) + 4096 * (x12 + x13 + x14 + x15) + 65536 * (x16 + x17 + x18 + x19) + 1048576 * (x20 + x21 + x22 + x23)) / 16) (by omega)
  have ec : ((x0 + x1 + x2 + x3) + 16 * (x4 + x5 + x6 + x7) + 256 * (x8 + x9 + x10 + x11) + 4096 * (x12 + x13 + x14 + x15) + 65536 * (x16 + x17 + x18 + x19) + 1048576 * (x20 + x21 + x22 + x23) + ((x0 + x1 + x2 + x3) + 16 * (x4 + x5 + x6 + x7) + 256 * (x8 + x9 + x10 + x11) + 4096 * (x12 + x13 + x14 + x15) + 65536 * (x16 + x17 + x18 + x19) + 1048576 * (x20 + x21 + x22 + x23)) / 16) &&& 252645135 = (x0 + x1 + x2 + x3 + x4 + x5 + x6 + x7) + 256 * (x8 + x9 + x10 + x11 + x12 + x13 + x14 + x15) + 65536 * (x16 + x17 + x18 + x19 + x20 + x21 + x22 + x23) := by
    rw [qf]
    omega
  rw [ec]
  clear qf ec
  have e63 : ∀ y : Nat, y &&& 63 = y % 64 := fun y => Nat.and_two_pow_sub_one_eq_mod y 6
  rw [e63]
  omega
