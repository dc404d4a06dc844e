/-! bits of ints -/
theorem smod_jI {r : Nat} (hr : r < 31) : ((jI r &&& 31).toBitVec.smod 32) = BitVec.ofNat 32 r := by
  have : ∀ r : Fin 31, ((jI r.1 &&& 31).toBitVec.smod 32) = BitVec.ofNat 32 r.1 := by decide +kernel
  exact this ⟨r, hr⟩
theorem shr_bv {x : Int32} {r : Nat} (hr : r < 31) : (x >>> (jI r &&& 31)).toBitVec = x.toBitVec.sshiftRight r := by
  rw [Int32.toBitVec_shiftRight, smod_jI hr, BitVec.sshiftRight_eq', BitVec.toNat_ofNat, Nat.mod_eq_of_lt (by omega)]
theorem shl_bv {r : Nat} (hr : r < 31) : (jI 1 <<< (jI r &&& 31)).toBitVec = BitVec.twoPow 32 r := by
  have : ∀ r : Fin 31, (jI 1 <<< (jI r.1 &&& 31)).toBitVec = BitVec.twoPow 32 r.1 := by decide +kernel
  exact this ⟨r, hr⟩
theorem shr_0 {x : BitVec 32} {r : Nat} (hr : r < 31) : (x.sshiftRight r).getLsbD 0 = x.getLsbD r := by
  rw [BitVec.getLsbD_sshiftRight, if_pos (by omega)]
  simp
theorem one_iff {y : BitVec 32} : y &&& 1#32 = 1#32 ↔ y.getLsbD 0 = true := by
  constructor
  · intro h
    have := congrArg (fun b : BitVec 32 => b.getLsbD 0) h
    simpa only [BitVec.getLsbD_and, show (1#32).getLsbD 0 = true from rfl, Bool.and_true] using this
  · intro h
    apply BitVec.eq_of_getLsbD_eq
    intro i hi
    rw [BitVec.getLsbD_and]
    by_cases h0 : i = 0
    · subst h0
      rw [h]; rfl
    · have : (1#32).getLsbD i = false := by
        rw [BitVec.getLsbD_one]
        simp [h0]
      rw [this, Bool.and_false]
/-- whether the bit r is set -/
def bt (x : Int32) (r : Nat) : Bool := x.toBitVec.getLsbD r
theorem bit_iff {x : Int32} {r : Nat} (hr : r < 31) : ((x >>> (jI r &&& 31)) &&& jI 1 = jI 1) ↔ bt x r = true := by
  rw [← Int32.toBitVec_inj, Int32.toBitVec_and, shr_bv hr, show (jI 1).toBitVec = 1#32 from rfl, one_iff, shr_0 hr]
  rfl
theorem bt_or {x : Int32} {q r : Nat} (hq : q < 31) (hr : r < 31) : bt (x ||| (jI 1 <<< (jI q &&& 31))) r = (bt x r || decide (r = q)) := by
  unfold bt
  rw [Int32.toBitVec_or, shl_bv hq, BitVec.getLsbD_or, BitVec.getLsbD_twoPow]
  by_cases h : r = q
  · subst h; simp [show r < 32 by omega]
  · have : ¬ q = r := fun e => h e.symm
    simp [h, this]
theorem bt_off {x : Int32} {q r : Nat} (hq : q < 31) (hr : r < 31) : bt (x &&& ((jI 1 <<< (jI q &&& 31)) ^^^ jm1)) r = (bt x r && !decide (r = q)) := by
  unfold bt
  rw [Int32.toBitVec_and, Int32.toBitVec_xor, shl_bv hq, show jm1.toBitVec = BitVec.allOnes 32 from rfl, BitVec.getLsbD_and, BitVec.getLsbD_xor, BitVec.getLsbD_twoPow, BitVec.getLsbD_allOnes]
  by_cases h : r = q
  · subst h; simp [show r < 32 by omega]
  · have : ¬ q = r := fun e => h e.symm
    simp [h, this, show r < 32 by omega]
theorem bt_on {x : Int32} {q r : Nat} (hq : q < 31) (hr : r < 31) : x &&& (jI 1 <<< (jI q &&& 31)) = jI 0 ↔ bt x q = false := by
  rw [← Int32.toBitVec_inj, Int32.toBitVec_and, shl_bv hq, show (jI 0).toBitVec = 0#32 from rfl]
  unfold bt
  constructor
  · intro h
    have := congrArg (fun b : BitVec 32 => b.getLsbD q) h
    simpa [BitVec.getLsbD_twoPow, show q < 32 by omega] using this
  · intro h
    apply BitVec.eq_of_getLsbD_eq
    intro i hi
    rw [BitVec.getLsbD_and, BitVec.getLsbD_twoPow]
    by_cases h0 : q = i
    · subst h0; simp [h]
    · simp [h0]
theorem bt_0 {r : Nat} : bt (jI 0) r = false := by
  unfold bt
  rw [show (jI 0).toBitVec = 0#32 from rfl]
  exact BitVec.getLsbD_zero
