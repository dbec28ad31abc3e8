/-! bytes of what is fed -/
section BytesA
def sbI (y : Int32) : Int32 := y.toInt8.toInt32
theorem sb_eq {x y : Int32} (h : ∀ i, i < 8 → x.toBitVec.getLsbD i = y.toBitVec.getLsbD i) : sbI x = sbI y := by
  unfold sbI
  congr 1
  apply Int8.toBitVec_inj.1
  rw [Int32.toBitVec_toInt8, Int32.toBitVec_toInt8]
  apply BitVec.eq_of_getLsbD_eq
  intro i hi
  rw [BitVec.getLsbD_signExtend, BitVec.getLsbD_signExtend, if_pos (by omega), if_pos (by omega), h i hi]
theorem jb_sb (x : Int32) : jbyte (x.toInt8.toInt32) = sbI x := by
  show (x.toInt8.toInt32).toInt8.toInt32 = x.toInt8.toInt32
  rw [Int8.toInt8_toInt32]
theorem h255 : ∀ i, i < 8 → (255#32).getLsbD i = true := by decide
theorem by_24 (x : Int32) : jbyte ((jushr x 24).toInt8.toInt32) = sbI ((x >>> 24) &&& 255) := by
  rw [jb_sb]
  apply sb_eq
  intro i hi
  unfold jushr
  simp [Int32.toBitVec_shiftRight, BitVec.getLsbD_sshiftRight]
  rw [h255 i hi, if_pos (by omega), decide_eq_false (by omega)]
  simp
theorem by_16 (x : Int32) : jbyte ((jushr x 16).toInt8.toInt32) = sbI ((x >>> 16) &&& 255) := by
  rw [jb_sb]
  apply sb_eq
  intro i hi
  unfold jushr
  simp [Int32.toBitVec_shiftRight, BitVec.getLsbD_sshiftRight]
  rw [h255 i hi, if_pos (by omega), decide_eq_false (by omega)]
  simp
theorem by_8 (x : Int32) : jbyte ((jushr x 8).toInt8.toInt32) = sbI ((x >>> 8) &&& 255) := by
  rw [jb_sb]
  apply sb_eq
  intro i hi
  unfold jushr
  simp [Int32.toBitVec_shiftRight, BitVec.getLsbD_sshiftRight]
  rw [h255 i hi, if_pos (by omega), decide_eq_false (by omega)]
  simp
theorem by_0 (x : Int32) : jbyte ((jushr x 0).toInt8.toInt32) = sbI ((x >>> 0) &&& 255) := by
  rw [jb_sb]
  apply sb_eq
  intro i hi
  unfold jushr
  simp [Int32.toBitVec_shiftRight, BitVec.getLsbD_sshiftRight]
  intro _
  exact h255 i hi
end BytesA
