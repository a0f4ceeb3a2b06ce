theorem bv_byte (x : BitVec 64) (k : Nat) (hk : k ≤ 56) : (BitVec.setWidth 8 (BitVec.setWidth 32 (x >>> k))) = BitVec.setWidth 8 (BitVec.setWidth 32 (x.sshiftRight k &&& 255#64)) := by
  apply BitVec.eq_of_getLsbD_eq
  intro i hi
  have h255 : (255#64).getLsbD i = true := by
    have : ∀ j, j < 8 → (255#64).getLsbD j = true := by decide
    exact this i hi
  simp only [BitVec.getLsbD_setWidth, BitVec.getLsbD_ushiftRight, BitVec.getLsbD_and, BitVec.getLsbD_sshiftRight, h255, Bool.and_true]
  rw [if_pos (show k + i < 64 by omega)]
  simp [show i < 32 by omega, hi, show ¬ 64 ≤ i by omega]
