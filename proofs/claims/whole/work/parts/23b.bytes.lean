/-! bytes -/
/-- a byte as the tape keeps it -/
def m_sb (b : Nat) : Int32 := if b < 128 then nI b else nI b - nI 256
theorem z_10 : ((1 : Int32) = 0) = False := eq_false (by decide)
def z_by (v : Int32) (j : Nat) : Nat := v.toBitVec.toNat / 2 ^ (8 * j) % 256
theorem z_low : ∀ b : Nat, b < 256 → (Int8.ofNat b).toInt32 = m_sb b := by decide +kernel
theorem z_lowx (x : Int32) : x.toInt8.toInt32 = m_sb (x.toBitVec.toNat % 256) := by
  rw [← z_low _ (Nat.mod_lt _ (by decide))]
  congr 1
  apply Int8.toBitVec_inj.mp
  apply BitVec.eq_of_toNat_eq
  simp
  rw [BitVec.signExtend_eq_setWidth_of_le _ (by decide), BitVec.toNat_setWidth]
theorem z_feed {v : Int32} {j : Nat} (hj : j < 4) : vp_nar .byte ((v >>> (nI (8 * j) &&& 31)).toInt8.toInt32) = m_sb (z_by v j) := by
  have e0 : ∀ x : Int32, vp_nar .byte x.toInt8.toInt32 = x.toInt8.toInt32 := by
    intro x
    show x.toInt8.toInt32.toInt8.toInt32 = _
    rw [Int8.toInt8_toInt32]
  rw [e0, z_lowx]
  congr 1
  have e1 : (v >>> (nI (8 * j) &&& 31)).toInt = v.toInt >>> (8 * j) := pk_shr _ _ _ (z_sm (by omega))
  rw [Int.shiftRight_eq_div_pow] at e1
  unfold z_by
  generalize v >>> (nI (8 * j) &&& 31) = y at *
  have e2 : v.toInt = if 2 * v.toBitVec.toNat < 4294967296 then (v.toBitVec.toNat : Int) else (v.toBitVec.toNat : Int) - (4294967296 : Nat) := BitVec.toInt_eq_toNat_cond v.toBitVec
  have e3 : y.toInt = if 2 * y.toBitVec.toNat < 4294967296 then (y.toBitVec.toNat : Int) else (y.toBitVec.toNat : Int) - (4294967296 : Nat) := BitVec.toInt_eq_toNat_cond y.toBitVec
  have hb : v.toBitVec.toNat < 4294967296 := v.toBitVec.isLt
  have hy : y.toBitVec.toNat < 4294967296 := y.toBitVec.isLt
  rw [e2, e3] at e1
  generalize v.toBitVec.toNat = a at *
  generalize y.toBitVec.toNat = c at *
  clear e2 e3
  have hj' : j = 0 ∨ j = 1 ∨ j = 2 ∨ j = 3 := by omega
  rcases hj' with rfl | rfl | rfl | rfl
  · have p : ((2 ^ (8 * 0) : Nat) : Int) = 1 := rfl
    have p' : 2 ^ (8 * 0) = 1 := rfl
    rw [p] at e1
    rw [p']
    split at e1 <;> split at e1 <;> omega
  · have p : ((2 ^ (8 * 1) : Nat) : Int) = 256 := rfl
    have p' : 2 ^ (8 * 1) = 256 := rfl
    rw [p] at e1
    rw [p']
    split at e1 <;> split at e1 <;> omega
  · have p : ((2 ^ (8 * 2) : Nat) : Int) = 65536 := rfl
    have p' : 2 ^ (8 * 2) = 65536 := rfl
    rw [p] at e1
    rw [p']
    split at e1 <;> split at e1 <;> omega
  · have p : ((2 ^ (8 * 3) : Nat) : Int) = 16777216 := rfl
    have p' : 2 ^ (8 * 3) = 16777216 := rfl
    rw [p] at e1
    rw [p']
    split at e1 <;> split at e1 <;> omega
