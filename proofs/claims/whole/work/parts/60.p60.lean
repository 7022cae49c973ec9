/-! ===== acts: the reference, its bytes ===== -/
theorem by_eq {v s : Int} (hs : s = 24 ∨ s = 16 ∨ s = 8 ∨ s = 0) : zand (zi2b (zshr v s)) 255 = zand (zushr v s) 255 := by
  have k : ∀ (x : BitVec 32) (n : Nat), n ≤ 24 → ((x.sshiftRight n).setWidth 8).signExtend 32 &&& 255#32 = (x >>> n) &&& 255#32 := by
    intro x n hn
    apply BitVec.eq_of_getLsbD_eq
    intro i hi
    rw [BitVec.getLsbD_and, BitVec.getLsbD_and]
    by_cases c : i < 8
    · rw [BitVec.getLsbD_signExtend, BitVec.getLsbD_setWidth, BitVec.getLsbD_sshiftRight, BitVec.getLsbD_ushiftRight]
      simp only [c, hi, decide_true, Bool.true_and, if_true]
      rw [decide_eq_false (show ¬ 32 ≤ i by omega), if_pos (show n + i < 32 by omega)]
      rfl
    · have z : (255#32).getLsbD i = false := by
        have : ∀ j : Fin 32, ¬ j.val < 8 → (255#32).getLsbD j.val = false := by decide
        exact this ⟨i, hi⟩ c
      rw [z, Bool.and_false, Bool.and_false]
  have hb : 0 ≤ s ∧ s < 32 := by omega
  have L : (Int32.ofInt (zi2b (zshr v s))).toBitVec = (((Int32.ofInt v).toBitVec.sshiftRight s.toNat).setWidth 8).signExtend 32 := by
    unfold zi2b
    rw [Int32.ofInt_toInt]
    rw [Int8.toBitVec_toInt32, Int32.toBitVec_toInt8, shr_b hb, BitVec.signExtend_eq_setWidth_of_le _ (by decide : 8 ≤ 32)]
  have R : (Int32.ofInt (zushr v s)).toBitVec = (Int32.ofInt v).toBitVec >>> s.toNat := by
    unfold zushr
    rw [Int32.ofInt_toInt]
    have sh : ((Int32.ofInt s).toUInt32 &&& Int32.toUInt32 31).toBitVec = BitVec.ofNat 32 s.toNat := by
      rcases hs with rfl | rfl | rfl | rfl <;> decide
    show (((Int32.ofInt v).toUInt32 >>> ((Int32.ofInt s).toUInt32 &&& Int32.toUInt32 31))).toBitVec = _
    rw [UInt32.toBitVec_shiftRight, sh]
    rcases hs with rfl | rfl | rfl | rfl <;> rfl
  unfold zand
  congr 1
  rw [← Int32.toBitVec_inj, Int32.toBitVec_and, Int32.toBitVec_and, L, R]
  exact k _ _ (by omega)
