theorem bv_byte (x : BitVec 64) (k : Nat) (hk : k ≤ 56) : (BitVec.setWidth 8 (BitVec.setWidth 32 (x >>> k))) = BitVec.setWidth 8 (BitVec.setWidth 32 (x.sshiftRight k &&& 255#64)) := by
  apply BitVec.eq_of_getLsbD_eq
  intro i hi
  have h255 : (255#64).getLsbD i = true := by
    have : ∀ j, j < 8 → (255#64).getLsbD j = true := by decide
    exact this i hi
  simp only [BitVec.getLsbD_setWidth, BitVec.getLsbD_ushiftRight, BitVec.getLsbD_and, BitVec.getLsbD_sshiftRight, h255, Bool.and_true]
  rw [if_pos (show k + i < 64 by omega)]
  simp [show i < 32 by omega, hi, show ¬ 64 ≤ i by omega]
theorem sh_u : ∀ k, k < 8 → ((8 * nI k).toInt64.toUInt64 &&& Int64.toUInt64 63) = UInt64.ofNat (8 * k) := by decide
theorem sh_s : ∀ k, k < 8 → ((8 * nI k).toInt64 &&& 63) = Int64.ofNat (8 * k) := by decide
theorem sh_um : ∀ k, k < 8 → ((UInt64.ofNat (8 * k)).toBitVec % 64).toNat = 8 * k := by decide
theorem sh_sm : ∀ k, k < 8 → ((Int64.ofNat (8 * k)).toBitVec.smod 64).toNat = 8 * k := by decide
theorem by_eq (w : Int64) (k : Nat) (hk : k < 8) : ((w.toUInt64 >>> ((8 * nI k).toInt64.toUInt64 &&& Int64.toUInt64 63)).toInt64).toInt32.toInt8 = (((w >>> ((8 * nI k).toInt64 &&& 63)) &&& 255).toInt32).toInt8 := by
  rw [sh_u k hk, sh_s k hk]
  apply Int8.toBitVec_inj.mp
  have h := bv_byte w.toBitVec (8 * k) (by omega)
  simp only [Int32.toBitVec_toInt8, Int64.toBitVec_toInt32, UInt64.toBitVec_toInt64, UInt64.toBitVec_shiftRight, Int64.toBitVec_and, Int64.toBitVec_shiftRight, Int64.toBitVec_toUInt64, BitVec.sshiftRight', BitVec.ushiftRight_eq', sh_um k hk, sh_sm k hk]
  rw [BitVec.signExtend_eq_setWidth_of_le _ (by decide), BitVec.signExtend_eq_setWidth_of_le _ (by decide), BitVec.signExtend_eq_setWidth_of_le _ (by decide), BitVec.signExtend_eq_setWidth_of_le _ (by decide)]
  exact h
theorem by_inx (w : Int64) : inx 256 (w &&& 255).toInt32 := by
  have h1 : (w &&& 255).toBitVec.toNat ≤ 255 := by
    rw [Int64.toBitVec_and, BitVec.toNat_and]
    exact Nat.and_le_right
  have h2 : (w &&& 255).toInt = ((w &&& 255).toBitVec.toNat : Int) := BitVec.toInt_eq_toNat_of_lt (by omega)
  have h3 : ((w &&& 255).toInt32).toInt = (w &&& 255).toInt := by
    rw [Int64.toInt_toInt32, Int.bmod_def]
    omega
  refine ⟨?_, ?_⟩
  · rw [h3]
    omega
  · rw [h3]
    show _ < (256 : Int)
    omega
theorem nar_b (y : Int32) : vp_nar .byte y.toInt8.toInt32 = y.toInt8.toInt32 := by
  show y.toInt8.toInt32.toInt8.toInt32 = _
  rw [Int8.toInt8_toInt32]
