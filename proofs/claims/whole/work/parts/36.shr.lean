/-! (short) v -/
theorem sh16 (v : Int32) : (v <<< ((16 : Int32) &&& 31)) >>> ((16 : Int32) &&& 31) = v.toInt16.toInt32 := by
  have e : ((16 : Int32) &&& 31) = 16 := by decide
  rw [e]
  apply Int32.toBitVec_inj.mp
  rw [Int32.toBitVec_shiftRight, Int32.toBitVec_shiftLeft]
  apply BitVec.eq_of_getLsbD_eq
  intro i hi
  have e2 : (BitVec.smod (16 : Int32).toBitVec 32) = 16#32 := by decide
  simp only [e2]
  have q : (v.toInt16.toInt32).toBitVec = (v.toBitVec.signExtend 16).signExtend 32 := rfl
  rw [q, BitVec.getLsbD_signExtend, BitVec.getLsbD_signExtend]
  simp [BitVec.getLsbD_sshiftRight, BitVec.getLsbD_shiftLeft, BitVec.msb_eq_getLsbD_last]
  by_cases h : i < 16
  · simp [h, hi, show 16 + i < 32 by omega, show ¬ 32 ≤ i by omega]
  · have q2 : (BitVec.signExtend 16 v.toBitVec)[15] = v.toBitVec[15] := by
      rw [BitVec.getElem_signExtend]; simp
    simp [h, hi, show ¬ 16 + i < 32 by omega, show ¬ 32 ≤ i by omega, q2]
