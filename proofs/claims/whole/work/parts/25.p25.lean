/-! ===== bits of an int ===== -/
def hb (s k : Int) : Bool := (Int32.ofInt s).toBitVec.getLsbD k.toNat
theorem shl_bv : ∀ k : Fin 32, ((1 : Int32) <<< (Int32.ofInt (k.val : Int) &&& 31)).toBitVec = BitVec.twoPow 32 k.val := by decide +kernel
theorem shr_bv : ∀ k : Fin 32, ((Int32.ofInt (k.val : Int) &&& 31).toBitVec.smod 32).toNat = k.val := by decide +kernel
theorem of1 : Int32.ofInt 1 = 1 := rfl
theorem shl_b {k : Int} (h : 0 ≤ k ∧ k < 32) : (Int32.ofInt (zshl 1 k)).toBitVec = BitVec.twoPow 32 k.toNat := by
  have := shl_bv ⟨k.toNat, by omega⟩
  rw [show (((⟨k.toNat, by omega⟩ : Fin 32).val : Nat) : Int) = k by show ((k.toNat : Nat) : Int) = k; omega] at this
  rw [zshl, of1, Int32.ofInt_toInt, this]
theorem shr_b {s k : Int} (h : 0 ≤ k ∧ k < 32) : (Int32.ofInt (zshr s k)).toBitVec = (Int32.ofInt s).toBitVec.sshiftRight k.toNat := by
  have := shr_bv ⟨k.toNat, by omega⟩
  rw [show (((⟨k.toNat, by omega⟩ : Fin 32).val : Nat) : Int) = k by show ((k.toNat : Nat) : Int) = k; omega] at this
  rw [zshr, Int32.ofInt_toInt, Int32.toBitVec_shiftRight]
  show (Int32.ofInt s).toBitVec.sshiftRight ((Int32.ofInt k &&& 31).toBitVec.smod 32).toNat = _
  rw [this]
theorem hb_0 {k : Int} : hb 0 k = false := by
  unfold hb
  rw [show (Int32.ofInt 0).toBitVec = 0#32 from rfl]
  simp
theorem hb_bit {j k : Int} (hj : 0 ≤ j ∧ j < 32) (hk : 0 ≤ k ∧ k < 32) : hb (zshl 1 j) k = decide (k = j) := by
  unfold hb
  rw [shl_b hj, BitVec.getLsbD_twoPow]
  have : j.toNat < 32 := by omega
  simp [this]
  omega
theorem hb_or {s t k : Int} : hb (zor s t) k = (hb s k || hb t k) := by
  unfold hb
  rw [zor, Int32.ofInt_toInt, Int32.toBitVec_or, BitVec.getLsbD_or]
theorem hb_and {s k : Int} (h : 0 ≤ k ∧ k < 32) : zand s (zshl 1 k) = 0 ↔ hb s k = false := by
  have e : zand s (zshl 1 k) = 0 ↔ (Int32.ofInt s).toBitVec &&& BitVec.twoPow 32 k.toNat = 0#32 := by
    rw [← shl_b h, ← Int32.toBitVec_and]
    unfold zand
    rw [show (0 : Int) = (0 : Int32).toInt from rfl, Int32.toInt_inj, ← Int32.toBitVec_inj]
    rfl
  rw [e, BitVec.and_twoPow]
  unfold hb
  cases q : (Int32.ofInt s).toBitVec.getLsbD k.toNat with
  | false => simp
  | true =>
    simp only [if_true, Bool.true_eq_false, iff_false]
    intro c
    have := congrArg (fun x => x.getLsbD k.toNat) c
    simp only [BitVec.getLsbD_twoPow, BitVec.getLsbD_zero] at this
    have h32 : k.toNat < 32 := by omega
    simp [h32] at this
theorem hb_has {s k : Int} (h : 0 ≤ k ∧ k < 32) : zand (zshr s k) 1 = 1 ↔ hb s k = true := by
  have e : zand (zshr s k) 1 = 1 ↔ (Int32.ofInt s).toBitVec.sshiftRight k.toNat &&& 1#32 = 1#32 := by
    rw [← shr_b h]
    unfold zand
    rw [show (1 : Int) = (1 : Int32).toInt from rfl, Int32.toInt_inj, ← Int32.toBitVec_inj, Int32.toBitVec_and]
    rfl
  rw [e, BitVec.and_one_eq_setWidth_ofBool_getLsbD, BitVec.getLsbD_sshiftRight]
  unfold hb
  have h32 : k.toNat < 32 := by omega
  simp only [Nat.add_zero, h32, if_true]
  cases q : (Int32.ofInt s).toBitVec.getLsbD k.toNat with
  | false => simp [h32, q]
  | true => simp [h32, q]
/-! ===== the reference: small reads ===== -/
abbrev hsb (s k : Int) : Prop := zand (zshr s k) 1 = 1
def zhold (v : Int) : Int := max 0 (min v 9999)
def msaid (M : zM) (t u : Int) : Int := if hsb (M 9 0 6) t then zhold (M 27 0 (9 * t + (3 + u)) + M 9 0 7) else M 27 0 (9 * t + (3 + u))
section
variable {l : Launch} {M : zM}
theorem vX9_in {l : Launch} {P : Int → zM → Prop} {v0 : Int} {v2 : Int} {v4 : Int} {M : zM}
    (H0 : (zJ v0 ∧ zJ v2 ∧ (v0 < v2 → P 0 M) ∧ (v2 ≤ v0 → (zJ v4 ∧ (v4 < v0 → P 0 M) ∧ (v0 ≤ v4 → P 1 M))))) :
    CI l m_X9_in [zl v0, zl v2, zl v4] M P :=
(aw_lload_n d_X9_in_0 rfl rfl 0 rfl
(aw_lload_n d_X9_in_1 rfl rfl 1 rfl
(have z1 := H0.1; have z2 := H0.2.1; have e3 := H0.2.2; aw_lcmp d_X9_in_2 rfl z1 z2 (fun w4 c5 => aw_if_lt d_X9_in_3 rfl rfl (by omega) (fun c6 => have e8 := e3.1 (by omega); (aw_iconst d_X9_in_17 rfl
(aw_rz d_X9_in_18 rfl (by decide) e8))) (fun c7 => have e9 := e3.2 (by omega); (aw_lload_n d_X9_in_6 rfl rfl 0 rfl
(aw_lload d_X9_in_7 rfl 2 rfl
(have z10 := e9.1; have e11 := e9.2; aw_lcmp d_X9_in_9 rfl z1 z10 (fun w12 c13 => aw_if_gt d_X9_in_10 rfl rfl (by omega) (fun c14 => have e16 := e11.1 (by omega); (aw_iconst d_X9_in_17 rfl
(aw_rz d_X9_in_18 rfl (by decide) e16))) (fun c15 => have e17 := e11.2 (by omega); (aw_iconst d_X9_in_13 rfl
(aw_goto d_X9_in_14 rfl
(aw_rz d_X9_in_18 rfl (by decide) e17)))))))))))))
theorem vX9_has {l : Launch} {P : Int → zM → Prop} {v0 : Int} {v1 : Int} {M : zM}
    (H0 : (zI (zand (zshr v0 v1) 1) ∧ ((zand (zshr v0 v1) 1) ≠ 1 → P 0 M) ∧ ((zand (zshr v0 v1) 1) = 1 → P 1 M))) :
    CI l m_X9_has [zi v0, zi v1] M P :=
(aw_iload_n d_X9_has_0 rfl rfl 0 rfl
(aw_iload_n d_X9_has_1 rfl rfl 1 rfl
(aw_ishr d_X9_has_2 rfl zshr_h
(aw_iconst d_X9_has_3 rfl
(aw_iand d_X9_has_4 rfl zand_h
(aw_iconst d_X9_has_5 rfl
(have z1 := H0.1; have e2 := H0.2; aw_icmp_ne d_X9_has_6 rfl rfl z1 (by decide) (fun c3 => have e5 := e2.1 c3; (aw_iconst d_X9_has_13 rfl
(aw_rz d_X9_has_14 rfl (by decide) e5))) (fun c4 => have e6 := e2.2 c4; (aw_iconst d_X9_has_9 rfl
(aw_goto d_X9_has_10 rfl
(aw_rz d_X9_has_14 rfl (by decide) e6)))))))))))
theorem vX9_traders {l : Launch} {P : Int → zM → Prop}  {M : zM}
    (H0 : P (M 27 0 180) M) :
    CI l m_X9_traders [zr 9 0] M P :=
(aw_aload_n d_X9_traders_0 rfl rfl 0 rfl (by decide)
(aw_getR (k' := 27) (a := 0) (b := 0) (j := 0) d_X9_traders_1 rfl fl9_7 rfl zj0 ⟨by decide, fun _ => by decide⟩
(aw_sipush d_X9_traders_4 rfl (by decide)
(aw_iald d_X9_traders_7 rfl za27 (by decide)
(aw_ri d_X9_traders_8 rfl H0)))))
theorem vX9_of {l : Launch} {P : Int → zM → Prop} {v1 : Int} {v2 : Int} {M : zM}
    (H0 : ((0 ≤ ((9 * v1) + v2) ∧ ((9 * v1) + v2) < 187) ∧ P (M 27 0 ((9 * v1) + v2)) M)) :
    CI l m_X9_of [zr 9 0, zi v1, zi v2] M P :=
(aw_aload_n d_X9_of_0 rfl rfl 0 rfl (by decide)
(aw_getR (k' := 27) (a := 0) (b := 0) (j := 0) d_X9_of_1 rfl fl9_7 rfl zj0 ⟨by decide, fun _ => by decide⟩
(aw_bipush d_X9_of_4 rfl (by decide)
(aw_iload_n d_X9_of_6 rfl rfl 1 rfl
(aw_imul d_X9_of_7 rfl
(aw_iload_n d_X9_of_8 rfl rfl 2 rfl
(aw_iadd d_X9_of_9 rfl
(have z1 := H0.1; have e2 := H0.2; (aw_iald d_X9_of_10 rfl za27 z1
(aw_ri d_X9_of_11 rfl e2))))))))))
theorem vX9_held {l : Launch} {P : Int → zM → Prop} {v0 : Int} {M : zM}
    (H0 : (zI v0 ∧ (0 ≤ v0 → ((v0 ≤ 9999 → P v0 M) ∧ (9999 < v0 → P 9999 M))) ∧ (v0 < 0 → P 0 M))) :
    CI l m_X9_held [zi v0] M P :=
(aw_iload_n d_X9_held_0 rfl rfl 0 rfl
(have z1 := H0.1; have e2 := H0.2; aw_if_ge d_X9_held_1 rfl rfl z1 (fun c3 => have e5 := e2.1 c3; (aw_iload_n d_X9_held_8 rfl rfl 0 rfl
(aw_sipush d_X9_held_9 rfl (by decide)
(aw_icmp_le d_X9_held_12 rfl rfl z1 (by decide) (fun c7 => have e9 := e5.1 c7; (aw_iload_n d_X9_held_21 rfl rfl 0 rfl
(aw_ri d_X9_held_22 rfl e9))) (fun c8 => have e10 := e5.2 c8; (aw_sipush d_X9_held_15 rfl (by decide)
(aw_goto d_X9_held_18 rfl
(aw_ri d_X9_held_22 rfl e10)))))))) (fun c4 => have e6 := e2.2 c4; (aw_iconst d_X9_held_4 rfl
(aw_goto d_X9_held_5 rfl
(aw_ri d_X9_held_22 rfl e6))))))
theorem vX9_halfDown {l : Launch} {P : Int → zM → Prop} {v0 : Int} {M : zM}
    (H0 : (zI v0 ∧ (v0 < 0 → (zI (1 - v0) ∧ P (-(Int.tdiv (1 - v0) 2)) M)) ∧ (0 ≤ v0 → P (Int.tdiv v0 2) M))) :
    CI l m_X9_halfDown [zi v0] M P :=
(aw_iload_n d_X9_halfDown_0 rfl rfl 0 rfl
(have z1 := H0.1; have e2 := H0.2; aw_if_lt d_X9_halfDown_1 rfl rfl z1 (fun c3 => have e5 := e2.1 c3; (aw_iconst d_X9_halfDown_10 rfl
(aw_iload_n d_X9_halfDown_11 rfl rfl 0 rfl
(aw_isub d_X9_halfDown_12 rfl
(aw_iconst d_X9_halfDown_13 rfl
(have z7 := e5.1; have e8 := e5.2; (aw_idiv d_X9_halfDown_14 rfl z7 (by decide) (by decide)
(aw_ineg d_X9_halfDown_15 rfl
(aw_ri d_X9_halfDown_16 rfl e8))))))))) (fun c4 => have e6 := e2.2 c4; (aw_iload_n d_X9_halfDown_4 rfl rfl 0 rfl
(aw_iconst d_X9_halfDown_5 rfl
(aw_idiv d_X9_halfDown_6 rfl z1 (by decide) (by decide)
(aw_goto d_X9_halfDown_7 rfl
(aw_ri d_X9_halfDown_16 rfl e6))))))))
theorem vX9_mayFollow {l : Launch} {P : Int → zM → Prop} {v0 : Int} {v1 : Int} {v2 : Int} {M : zM}
    (H0 : (zI v0 ∧ (v0 = 0 → (zI v2 ∧ zI v1 ∧ (v1 < v2 → P 0 M) ∧ (v2 ≤ v1 → P 1 M))) ∧ (v0 ≠ 0 → (zI v2 ∧ zI v1 ∧ (v2 < v1 → P 0 M) ∧ (v1 ≤ v2 → P 1 M))))) :
    CI l m_X9_mayFollow [zi v0, zi v1, zi v2] M P :=
(aw_iload_n d_X9_mayFollow_0 rfl rfl 0 rfl
(have z1 := H0.1; have e2 := H0.2; aw_if_eq d_X9_mayFollow_1 rfl rfl z1 (fun c3 => have e5 := e2.1 c3; (aw_iload_n d_X9_mayFollow_17 rfl rfl 2 rfl
(aw_iload_n d_X9_mayFollow_18 rfl rfl 1 rfl
(have z7 := e5.1; have z8 := e5.2.1; have e9 := e5.2.2; aw_icmp_gt d_X9_mayFollow_19 rfl rfl z7 z8 (fun c10 => have e12 := e9.1 c10; (aw_iconst d_X9_mayFollow_26 rfl
(aw_rz d_X9_mayFollow_27 rfl (by decide) e12))) (fun c11 => have e13 := e9.2 c11; (aw_iconst d_X9_mayFollow_22 rfl
(aw_goto d_X9_mayFollow_23 rfl
(aw_rz d_X9_mayFollow_27 rfl (by decide) e13)))))))) (fun c4 => have e6 := e2.2 c4; (aw_iload_n d_X9_mayFollow_4 rfl rfl 2 rfl
(aw_iload_n d_X9_mayFollow_5 rfl rfl 1 rfl
(have z14 := e6.1; have z15 := e6.2.1; have e16 := e6.2.2; aw_icmp_lt d_X9_mayFollow_6 rfl rfl z14 z15 (fun c17 => have e19 := e16.1 c17; (aw_iconst d_X9_mayFollow_13 rfl
(aw_goto d_X9_mayFollow_14 rfl
(aw_rz d_X9_mayFollow_27 rfl (by decide) e19)))) (fun c18 => have e20 := e16.2 c18; (aw_iconst d_X9_mayFollow_9 rfl
(aw_goto d_X9_mayFollow_10 rfl
(aw_rz d_X9_mayFollow_27 rfl (by decide) e20))))))))))
theorem s_X9_in {v a b : Int} (h : zJ v ∧ zJ a ∧ zJ b) : CI l m_X9_in [zl v, zl a, zl b] M (fun x M' => x = zb (a ≤ v ∧ v ≤ b) ∧ M' = M) :=
  vX9_in ⟨h.1, h.2.1, fun _ => ⟨(zb_f (by omega)).symm, rfl⟩, fun e => ⟨h.2.2, fun _ => ⟨(zb_f (by omega)).symm, rfl⟩, fun _ => ⟨(zb_1 ⟨e, by omega⟩).symm, rfl⟩⟩⟩
theorem s_X9_has {s k : Int} : CI l m_X9_has [zi s, zi k] M (fun x M' => x = zb (hsb s k) ∧ M' = M) :=
  vX9_has ⟨zI_and, fun e => ⟨(zb_f e).symm, rfl⟩, fun e => ⟨(zb_1 e).symm, rfl⟩⟩
theorem s_X9_traders : CI l m_X9_traders [zr 9 0] M (fun x M' => x = M 27 0 180 ∧ M' = M) := vX9_traders ⟨rfl, rfl⟩
theorem s_X9_of {t w : Int} (h : 0 ≤ 9 * t + w ∧ 9 * t + w < 187) : CI l m_X9_of [zr 9 0, zi t, zi w] M (fun x M' => x = M 27 0 (9 * t + w) ∧ M' = M) := vX9_of ⟨h, rfl, rfl⟩
theorem s_X9_held {v : Int} (h : zI v) : CI l m_X9_held [zi v] M (fun x M' => x = zhold v ∧ M' = M) :=
  vX9_held ⟨h, fun e => ⟨fun e2 => ⟨by unfold zhold; omega, rfl⟩, fun e2 => ⟨by unfold zhold; omega, rfl⟩⟩, fun e => ⟨by unfold zhold; omega, rfl⟩⟩
theorem s_X9_halfDown {v : Int} (h : 0 ≤ v ∧ v < 2147483648) : CI l m_X9_halfDown [zi v] M (fun x M' => x = v / 2 ∧ M' = M) :=
  vX9_halfDown ⟨by omega, fun e => by omega, fun e => ⟨tdiv_n h.1, rfl⟩⟩
theorem s_X9_mayFollow {s a v : Int} (h : zI s ∧ zI a ∧ zI v) : CI l m_X9_mayFollow [zi s, zi a, zi v] M (fun x M' => x = zb ((s ≠ 0 ∧ a ≤ v) ∨ (s = 0 ∧ v ≤ a)) ∧ M' = M) :=
  vX9_mayFollow ⟨h.1, fun e => ⟨h.2.2, h.2.1, fun _ => ⟨(zb_f (by omega)).symm, rfl⟩, fun _ => ⟨(zb_1 (by omega)).symm, rfl⟩⟩, fun e => ⟨h.2.2, h.2.1, fun _ => ⟨(zb_f (by omega)).symm, rfl⟩, fun _ => ⟨(zb_1 (by omega)).symm, rfl⟩⟩⟩
theorem vX9_isTrader {l : Launch} {P : Int → zM → Prop} {v1 : Int} {M : zM}
    (H0 : (zI v1 ∧ (zI ((M 27 0 180) - 1) ∧ ((zJ v1 ∧ zJ 0 ∧ zJ ((M 27 0 180) - 1)) ∧ P (zb (0 ≤ v1 ∧ v1 ≤ ((M 27 0 180) - 1))) M)))) :
    CI l m_X9_isTrader [zr 9 0, zi v1] M P :=
(aw_iload_n d_X9_isTrader_0 rfl rfl 1 rfl
(have z1 := H0.1; have e2 := H0.2; (aw_i2l d_X9_isTrader_1 rfl z1
(aw_lconst (x := 0) d_X9_isTrader_2 rfl (by decide)
(aw_aload_n d_X9_isTrader_3 rfl rfl 0 rfl (by decide)
(aw_VI (As := []) (st := [zl 0, zl v1]) d_X9_isTrader_4 rfl cv9_78 ⟨Nat.le_of_ble_eq_true rfl, Nat.le_of_ble_eq_true rfl⟩ rfl rfl (Nat.le_of_ble_eq_true rfl) (Nat.le_of_ble_eq_true rfl) (s_X9_traders) (fun _ _ hq => aw_eqs hq
(aw_iconst d_X9_isTrader_7 rfl
(aw_isub d_X9_isTrader_8 rfl
(have z3 := e2.1; have e4 := e2.2; (aw_i2l d_X9_isTrader_9 rfl z3
(have z5 := e4.1; have e6 := e4.2; (aw_SI (As := [zl v1, zl 0, zl ((M 27 0 180) - 1)]) (st := []) d_X9_isTrader_10 rfl cs9_82 ⟨Nat.le_of_ble_eq_true rfl, Nat.le_of_ble_eq_true rfl⟩ rfl rfl (Nat.le_of_ble_eq_true rfl) (Nat.le_of_ble_eq_true rfl) (s_X9_in z5) (fun _ _ hq => aw_eqs hq
(aw_rz d_X9_isTrader_13 rfl zb_01 e6)))))))))))))))
theorem vX9_isGrade {l : Launch} {P : Int → zM → Prop} {v0 : Int} {M : zM}
    (H0 : (zI v0 ∧ ((zJ v0 ∧ zJ 0 ∧ zJ 3) ∧ P (zb (0 ≤ v0 ∧ v0 ≤ 3)) M))) :
    CI l m_X9_isGrade [zi v0] M P :=
(aw_iload_n d_X9_isGrade_0 rfl rfl 0 rfl
(have z1 := H0.1; have e2 := H0.2; (aw_i2l d_X9_isGrade_1 rfl z1
(aw_lconst (x := 0) d_X9_isGrade_2 rfl (by decide)
(aw_ldc2 d_X9_isGrade_3 rfl cl9_86
(have z3 := e2.1; have e4 := e2.2; (aw_SI (As := [zl v0, zl 0, zl 3]) (st := []) d_X9_isGrade_6 rfl cs9_82 ⟨Nat.le_of_ble_eq_true rfl, Nat.le_of_ble_eq_true rfl⟩ rfl rfl (Nat.le_of_ble_eq_true rfl) (Nat.le_of_ble_eq_true rfl) (s_X9_in z3) (fun _ _ hq => aw_eqs hq
(aw_rz d_X9_isGrade_9 rfl zb_01 e4)))))))))
theorem vX9_sells {l : Launch} {P : Int → zM → Prop} {v1 : Int} {M : zM}
    (H0 : ((0 ≤ 9 * v1 + 0 ∧ 9 * v1 + 0 < 187) ∧ (zI (M 27 0 (9 * v1 + 0)) ∧ ((M 27 0 (9 * v1 + 0)) ≠ 1 → P 0 M) ∧ ((M 27 0 (9 * v1 + 0)) = 1 → P 1 M)))) :
    CI l m_X9_sells [zr 9 0, zi v1] M P :=
(aw_aload_n d_X9_sells_0 rfl rfl 0 rfl (by decide)
(aw_iload_n d_X9_sells_1 rfl rfl 1 rfl
(aw_iconst d_X9_sells_2 rfl
(have z1 := H0.1; have e2 := H0.2; (aw_VI (As := [zi v1, zi 0]) (st := []) d_X9_sells_3 rfl cv9_88 ⟨Nat.le_of_ble_eq_true rfl, Nat.le_of_ble_eq_true rfl⟩ rfl rfl (Nat.le_of_ble_eq_true rfl) (Nat.le_of_ble_eq_true rfl) (s_X9_of z1) (fun _ _ hq => aw_eqs hq
(aw_iconst d_X9_sells_6 rfl
(have z3 := e2.1; have e4 := e2.2; aw_icmp_ne d_X9_sells_7 rfl rfl z3 (by decide) (fun c5 => have e7 := e4.1 c5; (aw_iconst d_X9_sells_14 rfl
(aw_rz d_X9_sells_15 rfl (by decide) e7))) (fun c6 => have e8 := e4.2 c6; (aw_iconst d_X9_sells_10 rfl
(aw_goto d_X9_sells_11 rfl
(aw_rz d_X9_sells_15 rfl (by decide) e8))))))))))))
theorem vX9_said {l : Launch} {P : Int → zM → Prop} {v1 : Int} {v2 : Int} {M : zM}
    (H0 : ((0 ≤ 9 * v1 + (3 + v2) ∧ 9 * v1 + (3 + v2) < 187) ∧ ((¬ (hsb (M 9 0 6) v1) → P (M 27 0 (9 * v1 + (3 + v2))) M) ∧ (hsb (M 9 0 6) v1 → (zI ((M 27 0 (9 * v1 + (3 + v2))) + (M 9 0 7)) ∧ P (zhold ((M 27 0 (9 * v1 + (3 + v2))) + (M 9 0 7))) M))))) :
    CI l m_X9_said [zr 9 0, zi v1, zi v2] M P :=
(aw_aload_n d_X9_said_0 rfl rfl 0 rfl (by decide)
(aw_iload_n d_X9_said_1 rfl rfl 1 rfl
(aw_iconst d_X9_said_2 rfl
(aw_iload_n d_X9_said_3 rfl rfl 2 rfl
(aw_iadd d_X9_said_4 rfl
(have z1 := H0.1; have e2 := H0.2; (aw_VI (As := [zi v1, zi (3 + v2)]) (st := []) d_X9_said_5 rfl cv9_88 ⟨Nat.le_of_ble_eq_true rfl, Nat.le_of_ble_eq_true rfl⟩ rfl rfl (Nat.le_of_ble_eq_true rfl) (Nat.le_of_ble_eq_true rfl) (s_X9_of z1) (fun _ _ hq => aw_eqs hq
(aw_istore_n (lv' := [(3, zi (M 27 0 (9 * v1 + (3 + v2)))), (0, zr 9 0), (1, zi v1), (2, zi v2)]) d_X9_said_8 rfl rfl (by decide) rfl
(aw_aload_n d_X9_said_9 rfl rfl 1 rfl (by decide)
(aw_getI (kc := 6) d_X9_said_10 rfl fl9_92 rfl rfl
(aw_iload_n d_X9_said_13 rfl rfl 2 rfl
(aw_SI (As := [zi (M 9 0 6), zi v1]) (st := []) d_X9_said_14 rfl cs9_96 ⟨Nat.le_of_ble_eq_true rfl, Nat.le_of_ble_eq_true rfl⟩ rfl rfl (Nat.le_of_ble_eq_true rfl) (Nat.le_of_ble_eq_true rfl) (s_X9_has) (fun _ _ hq => aw_eqs hq
(aw_if_eq d_X9_said_17 rfl rfl zb_I (fun c3 => have e5 := e2.1 (zb_0 c3); (aw_iload_n d_X9_said_32 rfl rfl 0 rfl
(aw_ri d_X9_said_33 rfl e5))) (fun c4 => have e6 := e2.2 (zb_n0 c4); (aw_iload_n d_X9_said_20 rfl rfl 0 rfl
(aw_aload_n d_X9_said_21 rfl rfl 1 rfl (by decide)
(aw_getI (kc := 7) d_X9_said_22 rfl fl9_100 rfl rfl
(aw_iadd d_X9_said_25 rfl
(have z7 := e6.1; have e8 := e6.2; (aw_SI (As := [zi ((M 27 0 (9 * v1 + (3 + v2))) + (M 9 0 7))]) (st := []) d_X9_said_26 rfl cs9_103 ⟨Nat.le_of_ble_eq_true rfl, Nat.le_of_ble_eq_true rfl⟩ rfl rfl (Nat.le_of_ble_eq_true rfl) (Nat.le_of_ble_eq_true rfl) (s_X9_held z7) (fun _ _ hq => aw_eqs hq
(aw_goto d_X9_said_29 rfl
(aw_ri d_X9_said_33 rfl e8)))))))))))))))))))))))))
theorem vX9_isIn {l : Launch} {P : Int → zM → Prop} {v1 : Int} {v2 : Int} {M : zM}
    (H0 : ((0 ≤ 9 * v1 + 1 ∧ 9 * v1 + 1 < 187) ∧ ((¬ (hsb v2 (M 27 0 (9 * v1 + 1))) → P 0 M) ∧ (hsb v2 (M 27 0 (9 * v1 + 1)) → ((hsb (M 9 0 5) v1 → P 0 M) ∧ (¬ (hsb (M 9 0 5) v1) → P 1 M)))))) :
    CI l m_X9_isIn [zr 9 0, zi v1, zi v2] M P :=
(aw_iload_n d_X9_isIn_0 rfl rfl 2 rfl
(aw_aload_n d_X9_isIn_1 rfl rfl 0 rfl (by decide)
(aw_iload_n d_X9_isIn_2 rfl rfl 1 rfl
(aw_iconst d_X9_isIn_3 rfl
(have z1 := H0.1; have e2 := H0.2; (aw_VI (As := [zi v1, zi 1]) (st := [zi v2]) d_X9_isIn_4 rfl cv9_88 ⟨Nat.le_of_ble_eq_true rfl, Nat.le_of_ble_eq_true rfl⟩ rfl rfl (Nat.le_of_ble_eq_true rfl) (Nat.le_of_ble_eq_true rfl) (s_X9_of z1) (fun _ _ hq => aw_eqs hq
(aw_SI (As := [zi v2, zi (M 27 0 (9 * v1 + 1))]) (st := []) d_X9_isIn_7 rfl cs9_96 ⟨Nat.le_of_ble_eq_true rfl, Nat.le_of_ble_eq_true rfl⟩ rfl rfl (Nat.le_of_ble_eq_true rfl) (Nat.le_of_ble_eq_true rfl) (s_X9_has) (fun _ _ hq => aw_eqs hq
(aw_if_eq d_X9_isIn_10 rfl rfl zb_I (fun c3 => have e5 := e2.1 (zb_0 c3); (aw_iconst d_X9_isIn_28 rfl
(aw_rz d_X9_isIn_29 rfl (by decide) e5))) (fun c4 => have e6 := e2.2 (zb_n0 c4); (aw_aload_n d_X9_isIn_13 rfl rfl 0 rfl (by decide)
(aw_getI (kc := 5) d_X9_isIn_14 rfl fl9_107 rfl rfl
(aw_iload_n d_X9_isIn_17 rfl rfl 1 rfl
(aw_SI (As := [zi (M 9 0 5), zi v1]) (st := []) d_X9_isIn_18 rfl cs9_96 ⟨Nat.le_of_ble_eq_true rfl, Nat.le_of_ble_eq_true rfl⟩ rfl rfl (Nat.le_of_ble_eq_true rfl) (Nat.le_of_ble_eq_true rfl) (s_X9_has) (fun _ _ hq => aw_eqs hq
(aw_if_ne d_X9_isIn_21 rfl rfl zb_I (fun c7 => have e9 := e6.1 (zb_n0 c7); (aw_iconst d_X9_isIn_28 rfl
(aw_rz d_X9_isIn_29 rfl (by decide) e9))) (fun c8 => have e10 := e6.2 (zb_0 c8); (aw_iconst d_X9_isIn_24 rfl
(aw_goto d_X9_isIn_25 rfl
(aw_rz d_X9_isIn_29 rfl (by decide) e10)))))))))))))))))))))
theorem s_X9_isTrader {t : Int} (h : zI t ∧ (0 ≤ M 27 0 180 ∧ M 27 0 180 ≤ 20)) : CI l m_X9_isTrader [zr 9 0, zi t] M (fun x M' => x = zb (0 ≤ t ∧ t < M 27 0 180) ∧ M' = M) := by
  refine vX9_isTrader ⟨h.1, by omega, ⟨by omega, by omega, by omega⟩, ?_, rfl⟩
  unfold zb
  by_cases c : 0 ≤ t ∧ t < M 27 0 180
  · rw [if_pos c, if_pos (by omega)]
  · rw [if_neg c, if_neg (by omega)]
theorem s_X9_isGrade {t : Int} (h : zI t) : CI l m_X9_isGrade [zi t] M (fun x M' => x = zb (0 ≤ t ∧ t < 4) ∧ M' = M) := by
  refine vX9_isGrade ⟨h, ⟨by omega, by omega, by omega⟩, ?_, rfl⟩
  unfold zb
  by_cases c : 0 ≤ t ∧ t < 4
  · rw [if_pos c, if_pos (by omega)]
  · rw [if_neg c, if_neg (by omega)]
theorem s_X9_sells {t : Int} (h : (0 ≤ t ∧ t < 20) ∧ (M 27 0 (9 * t) = 0 ∨ M 27 0 (9 * t) = 1)) : CI l m_X9_sells [zr 9 0, zi t] M (fun x M' => x = zb (M 27 0 (9 * t) = 1) ∧ M' = M) := by
  refine vX9_sells ⟨by omega, ?_⟩
  rw [Int.add_zero]
  exact ⟨by omega, fun e => ⟨(zb_f e).symm, rfl⟩, fun e => ⟨(zb_1 e).symm, rfl⟩⟩
theorem s_X9_said {t u : Int} (h : (0 ≤ t ∧ t < 20) ∧ (0 ≤ u ∧ u < 4) ∧ zI (M 27 0 (9 * t + (3 + u)) + M 9 0 7)) : CI l m_X9_said [zr 9 0, zi t, zi u] M (fun x M' => x = msaid M t u ∧ M' = M) := by
  refine vX9_said ⟨by omega, ⟨fun e => ⟨?_, rfl⟩, fun e => ⟨h.2.2, ?_, rfl⟩⟩⟩
  · unfold msaid; rw [if_neg e]
  · unfold msaid; rw [if_pos e]
theorem s_X9_isIn {t g : Int} (h : 0 ≤ t ∧ t < 20) : CI l m_X9_isIn [zr 9 0, zi t, zi g] M (fun x M' => x = zb (hsb g (M 27 0 (9 * t + 1)) ∧ ¬ hsb (M 9 0 5) t) ∧ M' = M) := by
  refine vX9_isIn ⟨by omega, ⟨fun e => ⟨(zb_f (fun q => e q.1)).symm, rfl⟩, fun e => ⟨fun e2 => ⟨(zb_f (fun q => q.2 e2)).symm, rfl⟩, fun e2 => ⟨(zb_1 ⟨e, e2⟩).symm, rfl⟩⟩⟩⟩
end
