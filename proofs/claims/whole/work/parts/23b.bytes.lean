/-! bytes -/
/-- a byte as the tape keeps it -/
def m_sb (b : Nat) : Int32 := if b < 128 then nI b else nI b - nI 256
theorem z_10 : ((1 : Int32) = 0) = False := eq_false (by decide)
def z_by (v : Int32) (j : Nat) : Nat := v.toBitVec.toNat / 2 ^ (8 * j) % 256
theorem z_feed {v : Int32} {j : Nat} (hj : j < 4) : vp_nar .byte ((v >>> (nI (8 * j) &&& 31)).toInt8.toInt32) = m_sb (z_by v j) := by
  sorry
