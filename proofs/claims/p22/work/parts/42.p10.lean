/-! bits of a mask -/
theorem bit_sh : ∀ q, q < 32 → ((nI q &&& 31).toBitVec.smod 32) = BitVec.ofNat 32 q := by decide
theorem and1_get (y : BitVec 32) : (y &&& 1#32 = 1#32) ↔ y.getLsbD 0 = true := by
  rw [BitVec.and_one_eq_setWidth_ofBool_getLsbD]
  cases y.getLsbD 0 <;> decide
theorem bitI_get {x : Int32} {q : Nat} (hq : q < 32) : bitI x q = x.toBitVec.getLsbD q := by
  rw [Bool.eq_iff_iff]
  unfold bitI
  rw [decide_eq_true_eq, ← Int32.toBitVec_inj, Int32.toBitVec_and, Int32.toBitVec_shiftRight, bit_sh q hq]
  show (_ &&& 1#32 = 1#32) ↔ _
  rw [and1_get, BitVec.sshiftRight', BitVec.getLsbD_sshiftRight]
  have : (BitVec.ofNat 32 q).toNat = q := by rw [BitVec.toNat_ofNat]; omega
  rw [this]
  simp
  intro h
  omega
theorem one_sh {q : Nat} (hq : q < 32) (j : Nat) : (nI 1 <<< (nI q &&& 31)).toBitVec.getLsbD j = decide (j = q) := by
  rw [Int32.toBitVec_shiftLeft, bit_sh q hq]
  have h1 : (BitVec.ofNat 32 q).toNat = q := by rw [BitVec.toNat_ofNat]; omega
  show (1#32 <<< BitVec.ofNat 32 q).getLsbD j = _
  rw [BitVec.shiftLeft_eq', BitVec.getLsbD_shiftLeft, h1, BitVec.getLsbD_one]
  rw [Bool.eq_iff_iff]
  simp
  omega
theorem setI_get {x : Int32} {q j : Nat} (hq : q < 32) (hj : j < 32) (b : Bool) : bitI (setI x q b) j = if j = q then b else bitI x j := by
  rw [bitI_get hj, bitI_get hj]
  unfold setI
  cases b with
  | true =>
    rw [if_pos rfl, Int32.toBitVec_or, BitVec.getLsbD_or, one_sh hq]
    by_cases e : j = q
    · rw [if_pos e, decide_eq_true e, Bool.or_true]
    · rw [if_neg e, decide_eq_false e, Bool.or_false]
  | false =>
    rw [if_neg (by decide), Int32.toBitVec_and, BitVec.getLsbD_and, Int32.toBitVec_xor, BitVec.getLsbD_xor, one_sh hq]
    have h1 : (-1 : Int32).toBitVec.getLsbD j = true := by
      rw [show (-1 : Int32).toBitVec = BitVec.allOnes 32 by decide, BitVec.getLsbD_allOnes]
      exact decide_eq_true hj
    rw [h1]
    by_cases e : j = q
    · rw [if_pos e, decide_eq_true e]; simp
    · rw [if_neg e, decide_eq_false e]; simp
theorem bitI_zero : ∀ j, j < 16 → bitI 0 j = false := by decide
