/-! ===== bits of an int ===== -/
def hb (s k : Int) : Bool := (Int32.ofInt s).toBitVec.getLsbD k.toNat
theorem shl_bv : ∀ k : Fin 32, ((1 : Int32) <<< (Int32.ofInt (k.val : Int) &&& 31)).toBitVec = BitVec.twoPow 32 k.val := by decide +kernel
theorem shr_bv : ∀ k : Fin 32, ((Int32.ofInt (k.val : Int) &&& 31).toBitVec.smod 32).toNat = k.val := by decide +kernel
theorem of1 : Int32.ofInt 1 = 1 := rfl
theorem shl_b {k : Int} (h : 0 ≤ k ∧ k < 32) : (Int32.ofInt (zshl 1 k)).toBitVec = BitVec.twoPow 32 k.toNat := by
  have := shl_bv ⟨k.toNat, by omega⟩
  rw [show (((⟨k.toNat, by omega⟩ : Fin 32).val : Nat) : Int) = k by show ((k.toNat : Nat) : Int) = k; omega] at this
  rw [zshl, of1, Int32.ofInt_toInt, this]
theorem shr_b {s k : Int} (h : 0 ≤ k ∧ k < 32) : (Int32.ofInt (zshr s k)).toBitVec = (Int32.ofInt s).toBitVec.sshiftRight k.toNat := by
  have := shr_bv ⟨k.toNat, by omega⟩
  rw [show (((⟨k.toNat, by omega⟩ : Fin 32).val : Nat) : Int) = k by show ((k.toNat : Nat) : Int) = k; omega] at this
  rw [zshr, Int32.ofInt_toInt, Int32.toBitVec_shiftRight]
  show (Int32.ofInt s).toBitVec.sshiftRight ((Int32.ofInt k &&& 31).toBitVec.smod 32).toNat = _
  rw [this]
theorem hb_0 {k : Int} : hb 0 k = false := by
  unfold hb
  rw [show (Int32.ofInt 0).toBitVec = 0#32 from rfl]
  simp
theorem hb_bit {j k : Int} (hj : 0 ≤ j ∧ j < 32) (hk : 0 ≤ k ∧ k < 32) : hb (zshl 1 j) k = decide (k = j) := by
  unfold hb
  rw [shl_b hj, BitVec.getLsbD_twoPow]
  have : j.toNat < 32 := by omega
  simp [this]
  omega
theorem hb_and {s k : Int} (h : 0 ≤ k ∧ k < 32) : zand s (zshl 1 k) = 0 ↔ hb s k = false := by
  have e : zand s (zshl 1 k) = 0 ↔ (Int32.ofInt s).toBitVec &&& BitVec.twoPow 32 k.toNat = 0#32 := by
    rw [← shl_b h, ← Int32.toBitVec_and]
    unfold zand
    rw [show (0 : Int) = (0 : Int32).toInt from rfl, Int32.toInt_inj, ← Int32.toBitVec_inj]
    rfl
  rw [e, BitVec.and_twoPow]
  unfold hb
  cases q : (Int32.ofInt s).toBitVec.getLsbD k.toNat with
  | false => simp
  | true =>
    simp only [if_true, Bool.true_eq_false, iff_false]
    intro c
    have := congrArg (fun x => x.getLsbD k.toNat) c
    simp only [BitVec.getLsbD_twoPow, BitVec.getLsbD_zero] at this
    have h32 : k.toNat < 32 := by omega
    simp [h32] at this
/-! ===== the reference: small reads ===== -/
def zhold (v : Int) : Int := max 0 (min v 9999)
section
variable {l : Launch} {M : zM}
end

