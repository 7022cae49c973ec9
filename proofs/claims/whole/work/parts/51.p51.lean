/-! ===== share: what is asked, both sides ===== -/
theorem tW_nn {f : Int} : ∀ {B A : List Int}, 0 ≤ tW f B A
  | [], A => by rw [tW_nil1]; omega
  | b :: B, [] => by rw [tW_nil2]; omega
  | b :: B, a :: A => by
    have ih := tW_nn (f := f) (B := B) (A := A)
    rw [tW]
    split <;> omega
theorem tW_z {f : Int} {B A : List Int} : ∀ n : Nat, (n : Int) ≤ tT f B A → zsum (fun k => gB B k - gA f A k) n + tW f (B.drop n) (A.drop n) = tW f B A
  | 0, _ => by
    show zsum _ 0 + _ = _
    rw [zsum_0, List.drop_zero, List.drop_zero]
    omega
  | n + 1, h => by
    have ih := tW_z (f := f) (B := B) (A := A) n (by omega)
    have b := tT_b (f := f) (B := B) (A := A)
    have s := (tT_step (f := f) (B := B) (A := A) (k := (n : Int)) (by omega) (by omega) (by omega) (tT_g ⟨by omega, by omega⟩)).2
    rw [Int.toNat_natCast, show ((n : Int) + 1).toNat = n + 1 by omega] at s
    rw [show ((n + 1 : Nat) : Int) = (n : Int) + 1 by omega, zsum_s (by omega)]
    omega
theorem dW_b {f w : Int} {B A : List Int} : 0 ≤ dW B A f w ∧ dW B A f w ≤ tW f B A := by
  have d := dN_b (B := B) (A := A) (f := f) (w := w)
  constructor
  · refine zsum_ge fun i hi => ?_
    have := tT_g (f := f) (B := B) (A := A) (k := i) ⟨hi.1, by omega⟩
    omega
  · have z := tW_z (f := f) (B := B) (A := A) (dN B A f w).toNat (by omega)
    rw [show (((dN B A f w).toNat : Nat) : Int) = dN B A f w by omega] at z
    have := tW_nn (f := f) (B := B.drop (dN B A f w).toNat) (A := A.drop (dN B A f w).toNat)
    unfold dW
    omega
def dbl : Nat → Nat → Nat → Nat
  | 0, _, _ => 0
  | n + 1, a, b => if b ≤ a then 0 else dbl n (a * 2) b + 1
theorem dbl_ok : ∀ {n a b : Nat}, b ≤ a * 2 ^ n → a < 2 * b → (b ≤ a * 2 ^ dbl n a b ∧ a * 2 ^ dbl n a b < 2 * b) ∧ dbl n a b ≤ n
  | 0, a, b, h, k => ⟨⟨h, by rw [dbl]; omega⟩, Nat.le_refl _⟩
  | n + 1, a, b, h, k => by
    rw [dbl]
    by_cases c : b ≤ a
    · rw [if_pos c]
      refine ⟨⟨by omega, by omega⟩, by omega⟩
    · rw [if_neg c]
      have ih := dbl_ok (n := n) (a := a * 2) (b := b) (by rw [Nat.mul_assoc, show 2 * 2 ^ n = 2 ^ (n + 1) by rw [Nat.pow_succ]; omega]; exact h) (by omega)
      have e : a * 2 ^ (dbl n (a * 2) b + 1) = a * 2 * 2 ^ dbl n (a * 2) b := by rw [Nat.pow_succ, Nat.mul_assoc, Nat.mul_comm (2 ^ _) 2]
      rw [e]
      exact ⟨ih.1, by omega⟩
theorem dbl_u {a b s t : Nat} (h1 : b ≤ a * 2 ^ s ∧ a * 2 ^ s < 2 * b) (h2 : b ≤ a * 2 ^ t ∧ a * 2 ^ t < 2 * b) : s = t := by
  have k : ∀ {s t : Nat}, s < t → b ≤ a * 2 ^ s → a * 2 ^ t < 2 * b → False := by
    intro s t h q r
    have e : a * 2 ^ t = a * 2 ^ s * 2 ^ (t - s) := by rw [Nat.mul_assoc, ← Nat.pow_add, show s + (t - s) = t by omega]
    have e2 : 2 ^ 1 ≤ 2 ^ (t - s) := Nat.pow_le_pow_right (by decide) (by omega)
    have e3 : a * 2 ^ s * 2 ^ 1 ≤ a * 2 ^ s * 2 ^ (t - s) := Nat.mul_le_mul_left _ e2
    omega
  rcases Nat.lt_trichotomy s t with c | c | c
  · exact (k c h1.1 h2.2).elim
  · exact c
  · exact (k c h2.1 h1.2).elim
def aBits (a b : Int) : Int :=
  if b ≤ 0 then 9221120237041090560 else if a ≤ 0 then 0 else (1023 - (dbl 40 a.toNat b.toNat : Int)) * 4503599627370496 + (sig a.toNat b.toNat (dbl 40 a.toNat b.toNat) : Int) - 4503599627370496
theorem aBits_s {a b s : Nat} (ha : 1 ≤ a) (hb : 1 ≤ b ∧ b < 2147483648) (hab : a ≤ b) (h : b ≤ a * 2 ^ s ∧ a * 2 ^ s < 2 * b) : s ≤ 40 ∧ aBits a b = (1023 - (s : Int)) * 4503599627370496 + (sig a b s : Int) - 4503599627370496 := by
  have k := dbl_ok (n := 40) (a := a) (b := b) (by omega) (by omega)
  have e := dbl_u h k.1
  unfold aBits
  rw [if_neg (by omega), if_neg (by omega), Int.toNat_natCast, Int.toNat_natCast, ← e]
  exact ⟨by omega, rfl⟩
noncomputable def aShare (S : zS) : Int := aBits (zsum (fun g => dW (qB S g) (qA S g) (qfee S) (qlaw S)) 4) (wAll S)
theorem zlshl_52 (i : Fin 50) : zlshl (1023 - (i.val : Int)) 52 = (1023 - (i.val : Int)) * 4503599627370496 := by revert i; decide +kernel
theorem zlshl_e {x : Int} (h : 974 ≤ x ∧ x ≤ 1023) : zlshl x 52 = x * 4503599627370496 := by
  have := zlshl_52 ⟨(1023 - x).toNat, by omega⟩
  rw [show (1023 - (((1023 - x).toNat : Nat) : Int)) = x by omega] at this
  exact this
theorem zlor_e {h y : Nat} (hh : h ≤ 1023) (hy : y < 4503599627370496) : zlor ((h : Int) * 4503599627370496) (y : Int) = (h : Int) * 4503599627370496 + y := by
  unfold zlor
  rw [show ((h : Int) * 4503599627370496) = ((h * 4503599627370496 : Nat) : Int) by omega]
  rw [Int64.ofInt_eq_ofNat, Int64.ofInt_eq_ofNat]
  have tb : ∀ n : Nat, (Int64.ofNat n).toBitVec = BitVec.ofNat 64 n := fun n => rfl
  have e : (Int64.ofNat (h * 4503599627370496) ||| Int64.ofNat y) = Int64.ofNat (h * 4503599627370496 + y) := by
    rw [← Int64.toBitVec_inj, Int64.toBitVec_or, tb, tb, tb]
    apply BitVec.eq_of_toNat_eq
    rw [BitVec.toNat_or, BitVec.toNat_ofNat, BitVec.toNat_ofNat, BitVec.toNat_ofNat, Nat.mod_eq_of_lt (by omega), Nat.mod_eq_of_lt (by omega), Nat.mod_eq_of_lt (by omega)]
    have := Nat.two_pow_add_eq_or_of_lt (i := 52) (b := y) (by omega) h
    rw [Nat.mul_comm h]
    exact this.symm
  rw [e, Int64.toInt_ofNat_of_lt (by omega)]
  omega
section
variable {l : Launch} {M : zM} {S : zS}
def LX8_bitsOfShare_28 (l : Launch) (P : Int → zM → Prop) (v2 : UInt64) (v4 : Int) (v6 : Int) (M : zM) : Prop := AW l m_X8_bitsOfShare (zTl m_X8_bitsOfShare P) 28 [(2, zd v2), (4, zl v4), (6, zi v6)] [] M
theorem vX8_bitsOfShare_28 {l : Launch} {P : Int → zM → Prop} {v2 : UInt64} {v4 : Int} {v6 : Int} {M : zM}
    (H0 : (zI v6 ∧ (64 ≤ v6 → (vf_n64 (FP.dsub v2 FP.dconst1) ∧ (vf_n64 (FP.dmul (FP.dsub v2 FP.dconst1) 4841369599423283200) ∧ P (zlor (zlshl v4 52) (zd2l (FP.dmul (FP.dsub v2 FP.dconst1) 4841369599423283200))) M))) ∧ (v6 < 64 → (zI (zdcg v2 FP.dconst1) ∧ (0 ≤ (zdcg v2 FP.dconst1) → (vf_n64 (FP.dsub v2 FP.dconst1) ∧ (vf_n64 (FP.dmul (FP.dsub v2 FP.dconst1) 4841369599423283200) ∧ P (zlor (zlshl v4 52) (zd2l (FP.dmul (FP.dsub v2 FP.dconst1) 4841369599423283200))) M))) ∧ ((zdcg v2 FP.dconst1) < 0 → (vf_n64 (FP.dmul v2 4611686018427387904) ∧ LX8_bitsOfShare_28 l P (FP.dmul v2 4611686018427387904) (v4 - 1) (v6 + 1) M)))))) :
    LX8_bitsOfShare_28 l P v2 v4 v6 M :=
(aw_iload d_X8_bitsOfShare_28 rfl 2 rfl
(aw_bipush d_X8_bitsOfShare_30 rfl (by decide)
(have z15 := H0.1; have e16 := H0.2; aw_icmp_ge d_X8_bitsOfShare_32 rfl rfl z15 (by decide) (fun c17 => have e19 := e16.1 c17; (aw_dload_n d_X8_bitsOfShare_59 rfl rfl 0 rfl
(aw_dconst1 d_X8_bitsOfShare_60 rfl
(have z21 := e19.1; have e22 := e19.2; (aw_dsub d_X8_bitsOfShare_61 rfl rfl z21
(aw_ldc2d d_X8_bitsOfShare_62 rfl cd8_431
(have z23 := e22.1; have e24 := e22.2; (aw_dmul d_X8_bitsOfShare_65 rfl rfl z23
(aw_d2l d_X8_bitsOfShare_66 rfl zd2l_h
(aw_lstore (lv' := [(6, zl (zd2l (FP.dmul (FP.dsub v2 FP.dconst1) 4841369599423283200))), (2, zd v2), (4, zl v4)]) d_X8_bitsOfShare_67 rfl (by decide) rfl
(aw_lload d_X8_bitsOfShare_69 rfl 2 rfl
(aw_bipush d_X8_bitsOfShare_71 rfl (by decide)
(aw_lshl d_X8_bitsOfShare_73 rfl zlshl_h
(aw_lload d_X8_bitsOfShare_74 rfl 0 rfl
(aw_lor d_X8_bitsOfShare_76 rfl zlor_h
(aw_rl d_X8_bitsOfShare_77 rfl e24)))))))))))))))) (fun c18 => have e20 := e16.2 c18; (aw_dload_n d_X8_bitsOfShare_35 rfl rfl 0 rfl
(aw_dconst1 d_X8_bitsOfShare_36 rfl
(aw_dcmp d_X8_bitsOfShare_37 rfl zdcg_h
(have z25 := e20.1; have e26 := e20.2; aw_if_ge d_X8_bitsOfShare_38 rfl rfl z25 (fun c27 => have e29 := e26.1 c27; (aw_dload_n d_X8_bitsOfShare_59 rfl rfl 0 rfl
(aw_dconst1 d_X8_bitsOfShare_60 rfl
(have z31 := e29.1; have e32 := e29.2; (aw_dsub d_X8_bitsOfShare_61 rfl rfl z31
(aw_ldc2d d_X8_bitsOfShare_62 rfl cd8_431
(have z33 := e32.1; have e34 := e32.2; (aw_dmul d_X8_bitsOfShare_65 rfl rfl z33
(aw_d2l d_X8_bitsOfShare_66 rfl zd2l_h
(aw_lstore (lv' := [(6, zl (zd2l (FP.dmul (FP.dsub v2 FP.dconst1) 4841369599423283200))), (2, zd v2), (4, zl v4)]) d_X8_bitsOfShare_67 rfl (by decide) rfl
(aw_lload d_X8_bitsOfShare_69 rfl 2 rfl
(aw_bipush d_X8_bitsOfShare_71 rfl (by decide)
(aw_lshl d_X8_bitsOfShare_73 rfl zlshl_h
(aw_lload d_X8_bitsOfShare_74 rfl 0 rfl
(aw_lor d_X8_bitsOfShare_76 rfl zlor_h
(aw_rl d_X8_bitsOfShare_77 rfl e34)))))))))))))))) (fun c28 => have e30 := e26.2 c28; (aw_dload_n d_X8_bitsOfShare_41 rfl rfl 0 rfl
(aw_ldc2d d_X8_bitsOfShare_42 rfl cd8_429
(have z35 := e30.1; have e36 := e30.2; (aw_dmul d_X8_bitsOfShare_45 rfl rfl z35
(aw_dstore_n (lv' := [(2, zd (FP.dmul v2 4611686018427387904)), (4, zl v4), (6, zi v6)]) d_X8_bitsOfShare_46 rfl rfl (by decide) rfl
(aw_lload d_X8_bitsOfShare_47 rfl 1 rfl
(aw_lconst (x := 1) d_X8_bitsOfShare_49 rfl (by decide)
(aw_lsub d_X8_bitsOfShare_50 rfl
(aw_lstore (lv' := [(4, zl (v4 - 1)), (2, zd (FP.dmul v2 4611686018427387904)), (6, zi v6)]) d_X8_bitsOfShare_51 rfl (by decide) rfl
(aw_iinc (lv' := [(6, zi (v6 + 1)), (4, zl (v4 - 1)), (2, zd (FP.dmul v2 4611686018427387904))]) (y := (v6 + 1)) d_X8_bitsOfShare_53 rfl 2 rfl (by decide) rfl rfl
(aw_goto d_X8_bitsOfShare_56 rfl
(aw_sub [2, 1, 0] rfl e36)))))))))))))))))))))
theorem vX8_bitsOfShare {l : Launch} {P : Int → zM → Prop} {v0 : Int} {v1 : Int} {M : zM}
    (H0 : (zI v1 ∧ (0 < v1 → (zI v0 ∧ (0 < v0 → (vf_n64 (FP.ddiv (FP.i2d (Int32.ofInt v0)) (FP.i2d (Int32.ofInt v1))) ∧ LX8_bitsOfShare_28 l P (FP.ddiv (FP.i2d (Int32.ofInt v0)) (FP.i2d (Int32.ofInt v1))) 1023 0 M)) ∧ (v0 ≤ 0 → P 0 M))) ∧ (v1 ≤ 0 → P 9221120237041090560 M))) :
    CL l m_X8_bitsOfShare [zi v0, zi v1] M P :=
(aw_iload_n d_X8_bitsOfShare_0 rfl rfl 1 rfl
(have z1 := H0.1; have e2 := H0.2; aw_if_gt d_X8_bitsOfShare_1 rfl rfl z1 (fun c3 => have e5 := e2.1 c3; (aw_iload_n d_X8_bitsOfShare_8 rfl rfl 0 rfl
(have z7 := e5.1; have e8 := e5.2; aw_if_gt d_X8_bitsOfShare_9 rfl rfl z7 (fun c9 => have e11 := e8.1 c9; (aw_iload_n d_X8_bitsOfShare_14 rfl rfl 0 rfl
(aw_i2d d_X8_bitsOfShare_15 rfl
(aw_iload_n d_X8_bitsOfShare_16 rfl rfl 1 rfl
(aw_i2d d_X8_bitsOfShare_17 rfl
(have z13 := e11.1; have e14 := e11.2; (aw_ddiv d_X8_bitsOfShare_18 rfl rfl z13
(aw_dstore_n (lv' := [(2, zd (FP.ddiv (FP.i2d (Int32.ofInt v0)) (FP.i2d (Int32.ofInt v1)))), (0, zi v0), (1, zi v1)]) d_X8_bitsOfShare_19 rfl rfl (by decide) rfl
(aw_ldc2 d_X8_bitsOfShare_20 rfl cl8_427
(aw_lstore (lv' := [(4, zl 1023), (2, zd (FP.ddiv (FP.i2d (Int32.ofInt v0)) (FP.i2d (Int32.ofInt v1)))), (0, zi v0), (1, zi v1)]) d_X8_bitsOfShare_23 rfl (by decide) rfl
(aw_iconst d_X8_bitsOfShare_25 rfl
(aw_istore (lv' := [(6, zi 0), (4, zl 1023), (2, zd (FP.ddiv (FP.i2d (Int32.ofInt v0)) (FP.i2d (Int32.ofInt v1)))), (0, zi v0), (1, zi v1)]) d_X8_bitsOfShare_26 rfl (by decide) rfl
(aw_sub [2, 1, 0] rfl e14))))))))))))) (fun c10 => have e12 := e8.2 c10; (aw_lconst (x := 0) d_X8_bitsOfShare_12 rfl (by decide)
(aw_rl d_X8_bitsOfShare_13 rfl e12)))))) (fun c4 => have e6 := e2.2 c4; (aw_ldc2 d_X8_bitsOfShare_4 rfl cl8_425
(aw_rl d_X8_bitsOfShare_7 rfl e6)))))
def LX8_share_6 (l : Launch) (P : Int → zM → Prop) (v1 : Int) (v2 : Int) (v3 : Int) (M : zM) : Prop := AW l m_X8_share (zTl m_X8_share P) 6 [(0, zr 8 0), (1, zi v1), (2, zi v2), (3, zi v3)] [] M
theorem vX8_share_6 {l : Launch} {P : Int → zM → Prop} {v1 : Int} {v2 : Int} {v3 : Int} {M : zM}
    (H0 : (zI v3 ∧ (4 ≤ v3 → (CL l m_X8_bitsOfShare [zi v2, zi v1] M (fun x10 M7 => P x10 M7))) ∧ (v3 < 4 → (CV l m_X8_settleGrade [zr 8 0, zi v3] M (fun M11 => (CI l m_X0_worthOfFirst [zr 0 0, zi (M11 0 0 8)] M11 (fun x17 M14 => LX8_share_6 l P (v1 + (M11 0 0 7)) (v2 + x17) (v3 + 1) M14))))))) :
    LX8_share_6 l P v1 v2 v3 M :=
(aw_iload_n d_X8_share_6 rfl rfl 3 rfl
(aw_iconst d_X8_share_7 rfl
(have z1 := H0.1; have e2 := H0.2; aw_icmp_ge d_X8_share_8 rfl rfl z1 (by decide) (fun c3 => have e5 := e2.1 c3; (aw_iload_n d_X8_share_49 rfl rfl 2 rfl
(aw_iload_n d_X8_share_50 rfl rfl 1 rfl
(aw_SL (As := [zi v2, zi v1]) (st := []) d_X8_share_51 rfl cs8_314 ⟨Nat.le_of_ble_eq_true rfl, Nat.le_of_ble_eq_true rfl⟩ rfl rfl (Nat.le_of_ble_eq_true rfl) (Nat.le_of_ble_eq_true rfl) e5 (fun x10 M7 e8 => (aw_rl d_X8_share_54 rfl e8)))))) (fun c4 => have e6 := e2.2 c4; (aw_aload_n d_X8_share_11 rfl rfl 0 rfl (by decide)
(aw_iload_n d_X8_share_12 rfl rfl 3 rfl
(aw_VV (As := [zi v3]) (st := []) d_X8_share_13 rfl cv8_154 ⟨Nat.le_of_ble_eq_true rfl, Nat.le_of_ble_eq_true rfl⟩ rfl rfl (Nat.le_of_ble_eq_true rfl) (Nat.le_of_ble_eq_true rfl) e6 (fun M11 e12 => (aw_iload_n d_X8_share_16 rfl rfl 1 rfl
(aw_aload_n d_X8_share_17 rfl rfl 0 rfl (by decide)
(aw_getR (k' := 0) (a := 0) (b := 0) (j := 0) d_X8_share_18 rfl fl8_47 rfl zj0 ⟨by decide, fun _ => by decide⟩
(aw_getI (kc := 7) d_X8_share_21 rfl fl8_226 rfl rfl
(aw_iadd d_X8_share_24 rfl
(aw_istore_n (lv' := [(1, zi (v1 + (M11 0 0 7))), (0, zr 8 0), (2, zi v2), (3, zi v3)]) d_X8_share_25 rfl rfl (by decide) rfl
(aw_iload_n d_X8_share_26 rfl rfl 2 rfl
(aw_aload_n d_X8_share_27 rfl rfl 1 rfl (by decide)
(aw_getR (k' := 0) (a := 0) (b := 0) (j := 0) d_X8_share_28 rfl fl8_47 rfl zj0 ⟨by decide, fun _ => by decide⟩
(aw_aload_n d_X8_share_31 rfl rfl 1 rfl (by decide)
(aw_getR (k' := 0) (a := 0) (b := 0) (j := 0) d_X8_share_32 rfl fl8_47 rfl zj0 ⟨by decide, fun _ => by decide⟩
(aw_getI (kc := 8) d_X8_share_35 rfl fl8_157 rfl rfl
(aw_VI (As := [zi (M11 0 0 8)]) (st := [zi v2]) d_X8_share_38 rfl cv8_311 ⟨Nat.le_of_ble_eq_true rfl, Nat.le_of_ble_eq_true rfl⟩ rfl rfl (Nat.le_of_ble_eq_true rfl) (Nat.le_of_ble_eq_true rfl) e12 (fun x17 M14 e15 => (aw_iadd d_X8_share_41 rfl
(aw_istore_n (lv' := [(2, zi (v2 + x17)), (1, zi (v1 + (M11 0 0 7))), (0, zr 8 0), (3, zi v3)]) d_X8_share_42 rfl rfl (by decide) rfl
(aw_iinc (lv' := [(3, zi (v3 + 1)), (2, zi (v2 + x17)), (1, zi (v1 + (M11 0 0 7))), (0, zr 8 0)]) (y := (v3 + 1)) d_X8_share_43 rfl 3 rfl (by decide) rfl rfl
(aw_goto d_X8_share_46 rfl
(aw_sub [3, 2, 1, 0] rfl e15)))))))))))))))))))))))))))
theorem vX8_share {l : Launch} {P : Int → zM → Prop}  {M : zM}
    (H0 : LX8_share_6 l P 0 0 0 M) :
    CL l m_X8_share [zr 8 0] M P :=
(aw_iconst d_X8_share_0 rfl
(aw_istore_n (lv' := [(1, zi 0), (0, zr 8 0)]) d_X8_share_1 rfl rfl (by decide) rfl
(aw_iconst d_X8_share_2 rfl
(aw_istore_n (lv' := [(2, zi 0), (1, zi 0), (0, zr 8 0)]) d_X8_share_3 rfl rfl (by decide) rfl
(aw_iconst d_X8_share_4 rfl
(aw_istore_n (lv' := [(3, zi 0), (2, zi 0), (1, zi 0), (0, zr 8 0)]) d_X8_share_5 rfl rfl (by decide) rfl
(aw_sub [3, 2, 1, 0] rfl H0)))))))
def LX9_bitsOf_26 (l : Launch) (P : Int → zM → Prop) (v2 : Int) (v4 : Int) (v6 : Int) (M : zM) : Prop := AW l m_X9_bitsOf (zTl m_X9_bitsOf P) 26 [(2, zl v2), (4, zl v4), (6, zi v6)] [] M
def LX9_bitsOf_53 (l : Launch) (P : Int → zM → Prop) (v2 : Int) (v4 : Int) (v6 : Int) (v7 : Int) (v9 : Int) (M : zM) : Prop := AW l m_X9_bitsOf (zTl m_X9_bitsOf P) 53 [(2, zl v2), (4, zl v4), (6, zi v6), (7, zl v7), (9, zi v9)] [] M
theorem vX9_bitsOf_26 {l : Launch} {P : Int → zM → Prop} {v2 : Int} {v4 : Int} {v6 : Int} {M : zM}
    (H0 : (zJ v4 ∧ zJ v2 ∧ (v2 ≤ v4 → LX9_bitsOf_53 l P v2 v4 v6 0 0 M) ∧ (v4 < v2 → LX9_bitsOf_26 l P v2 (v4 * 2) (v6 - 1) M))) :
    LX9_bitsOf_26 l P v2 v4 v6 M :=
(aw_lload d_X9_bitsOf_26 rfl 1 rfl
(aw_lload_n d_X9_bitsOf_28 rfl rfl 0 rfl
(have z17 := H0.1; have z18 := H0.2.1; have e19 := H0.2.2; aw_lcmp d_X9_bitsOf_29 rfl z17 z18 (fun w20 c21 => aw_if_ge d_X9_bitsOf_30 rfl rfl (by omega) (fun c22 => have e24 := e19.1 (by omega); (aw_lconst (x := 0) d_X9_bitsOf_47 rfl (by decide)
(aw_lstore (lv' := [(7, zl 0), (2, zl v2), (4, zl v4), (6, zi v6)]) d_X9_bitsOf_48 rfl (by decide) rfl
(aw_iconst d_X9_bitsOf_50 rfl
(aw_istore (lv' := [(9, zi 0), (7, zl 0), (2, zl v2), (4, zl v4), (6, zi v6)]) d_X9_bitsOf_51 rfl (by decide) rfl
(aw_sub [2, 3, 4, 1, 0] rfl e24)))))) (fun c23 => have e25 := e19.2 (by omega); (aw_lload d_X9_bitsOf_33 rfl 1 rfl
(aw_ldc2 d_X9_bitsOf_35 rfl cl9_217
(aw_lmul d_X9_bitsOf_38 rfl
(aw_lstore (lv' := [(4, zl (v4 * 2)), (2, zl v2), (6, zi v6)]) d_X9_bitsOf_39 rfl (by decide) rfl
(aw_iinc (lv' := [(6, zi (v6 - 1)), (4, zl (v4 * 2)), (2, zl v2)]) (y := (v6 - 1)) d_X9_bitsOf_41 rfl 2 rfl (by decide) rfl rfl
(aw_goto d_X9_bitsOf_44 rfl
(aw_sub [2, 1, 0] rfl e25))))))))))))
theorem vX9_bitsOf_53 {l : Launch} {P : Int → zM → Prop} {v2 : Int} {v4 : Int} {v6 : Int} {v7 : Int} {v9 : Int} {M : zM}
    (H0 : (zI v9 ∧ (53 ≤ v9 → (zJ v4 ∧ zJ v2 ∧ (v2 < v4 → (zJ (v7 + 1) ∧ ((v7 + 1) ≠ 9007199254740992 → (zI v6 ∧ P (((zlshl v6 52) + (v7 + 1)) - 4503599627370496) M)) ∧ ((v7 + 1) = 9007199254740992 → (zI (v6 + 1) ∧ P (((zlshl (v6 + 1) 52) + (Int.tdiv (v7 + 1) 2)) - 4503599627370496) M)))) ∧ (v4 ≤ v2 → ((v4 ≠ v2 → (zJ v7 ∧ (v7 ≠ 9007199254740992 → (zI v6 ∧ P (((zlshl v6 52) + v7) - 4503599627370496) M)) ∧ (v7 = 9007199254740992 → (zI (v6 + 1) ∧ P (((zlshl (v6 + 1) 52) + (Int.tdiv v7 2)) - 4503599627370496) M)))) ∧ (v4 = v2 → (zJ v7 ∧ (zJ (Int.tmod v7 2) ∧ ((Int.tmod v7 2) ≠ 1 → ((v7 ≠ 9007199254740992 → (zI v6 ∧ P (((zlshl v6 52) + v7) - 4503599627370496) M)) ∧ (v7 = 9007199254740992 → (zI (v6 + 1) ∧ P (((zlshl (v6 + 1) 52) + (Int.tdiv v7 2)) - 4503599627370496) M)))) ∧ ((Int.tmod v7 2) = 1 → (zJ (v7 + 1) ∧ ((v7 + 1) ≠ 9007199254740992 → (zI v6 ∧ P (((zlshl v6 52) + (v7 + 1)) - 4503599627370496) M)) ∧ ((v7 + 1) = 9007199254740992 → (zI (v6 + 1) ∧ P (((zlshl (v6 + 1) 52) + (Int.tdiv (v7 + 1) 2)) - 4503599627370496) M))))))))))) ∧ (v9 < 53 → (zJ v4 ∧ zJ v2 ∧ (v4 < v2 → LX9_bitsOf_53 l P v2 (2 * v4) v6 ((2 * v7) + 0) (v9 + 1) M) ∧ (v2 ≤ v4 → LX9_bitsOf_53 l P v2 (2 * (v4 - v2)) v6 ((2 * v7) + 1) (v9 + 1) M))))) :
    LX9_bitsOf_53 l P v2 v4 v6 v7 v9 M :=
(aw_iload d_X9_bitsOf_53 rfl 4 rfl
(aw_bipush d_X9_bitsOf_55 rfl (by decide)
(have z26 := H0.1; have e27 := H0.2; aw_icmp_ge d_X9_bitsOf_57 rfl rfl z26 (by decide) (fun c28 => have e30 := e27.1 c28; (aw_lload d_X9_bitsOf_119 rfl 1 rfl
(aw_lload_n d_X9_bitsOf_121 rfl rfl 0 rfl
(have z32 := e30.1; have z33 := e30.2.1; have e34 := e30.2.2; aw_lcmp d_X9_bitsOf_122 rfl z32 z33 (fun w35 c36 => aw_if_gt d_X9_bitsOf_123 rfl rfl (by omega) (fun c37 => have e39 := e34.1 (by omega); (aw_lload d_X9_bitsOf_144 rfl 3 rfl
(aw_lconst (x := 1) d_X9_bitsOf_146 rfl (by decide)
(aw_ladd d_X9_bitsOf_147 rfl
(aw_lstore (lv' := [(7, zl (v7 + 1)), (2, zl v2), (4, zl v4), (6, zi v6), (9, zi v9)]) d_X9_bitsOf_148 rfl (by decide) rfl
(aw_lload d_X9_bitsOf_150 rfl 0 rfl
(aw_ldc2 d_X9_bitsOf_152 rfl cl9_284
(have z41 := e39.1; have e42 := e39.2; aw_lcmp d_X9_bitsOf_155 rfl z41 (by decide) (fun w43 c44 => aw_if_ne d_X9_bitsOf_156 rfl rfl (by omega) (fun c45 => have e47 := e42.1 (by omega); (aw_iload d_X9_bitsOf_170 rfl 3 rfl
(have z49 := e47.1; have e50 := e47.2; (aw_i2l d_X9_bitsOf_172 rfl z49
(aw_bipush d_X9_bitsOf_173 rfl (by decide)
(aw_lshl d_X9_bitsOf_175 rfl zlshl_h
(aw_lload d_X9_bitsOf_176 rfl 0 rfl
(aw_ladd d_X9_bitsOf_178 rfl
(aw_ldc2 d_X9_bitsOf_179 rfl cl9_286
(aw_lsub d_X9_bitsOf_182 rfl
(aw_rl d_X9_bitsOf_183 rfl e50))))))))))) (fun c46 => have e48 := e42.2 (by omega); (aw_lload d_X9_bitsOf_159 rfl 0 rfl
(aw_ldc2 d_X9_bitsOf_161 rfl cl9_217
(aw_ldiv d_X9_bitsOf_164 rfl z41 (by decide) (by decide)
(aw_lstore (lv' := [(7, zl (Int.tdiv (v7 + 1) 2)), (2, zl v2), (4, zl v4), (6, zi v6), (9, zi v9)]) d_X9_bitsOf_165 rfl (by decide) rfl
(aw_iinc (lv' := [(6, zi (v6 + 1)), (7, zl (Int.tdiv (v7 + 1) 2)), (2, zl v2), (4, zl v4), (9, zi v9)]) (y := (v6 + 1)) d_X9_bitsOf_167 rfl 3 rfl (by decide) rfl rfl
(aw_iload d_X9_bitsOf_170 rfl 0 rfl
(have z51 := e48.1; have e52 := e48.2; (aw_i2l d_X9_bitsOf_172 rfl z51
(aw_bipush d_X9_bitsOf_173 rfl (by decide)
(aw_lshl d_X9_bitsOf_175 rfl zlshl_h
(aw_lload d_X9_bitsOf_176 rfl 1 rfl
(aw_ladd d_X9_bitsOf_178 rfl
(aw_ldc2 d_X9_bitsOf_179 rfl cl9_286
(aw_lsub d_X9_bitsOf_182 rfl
(aw_rl d_X9_bitsOf_183 rfl e52))))))))))))))))))))))))) (fun c38 => have e40 := e34.2 (by omega); (aw_lload d_X9_bitsOf_126 rfl 1 rfl
(aw_lload_n d_X9_bitsOf_128 rfl rfl 0 rfl
(aw_lcmp d_X9_bitsOf_129 rfl z32 z33 (fun w53 c54 => aw_if_ne d_X9_bitsOf_130 rfl rfl (by omega) (fun c55 => have e57 := e40.1 (by omega); (aw_lload d_X9_bitsOf_150 rfl 3 rfl
(aw_ldc2 d_X9_bitsOf_152 rfl cl9_284
(have z59 := e57.1; have e60 := e57.2; aw_lcmp d_X9_bitsOf_155 rfl z59 (by decide) (fun w61 c62 => aw_if_ne d_X9_bitsOf_156 rfl rfl (by omega) (fun c63 => have e65 := e60.1 (by omega); (aw_iload d_X9_bitsOf_170 rfl 2 rfl
(have z67 := e65.1; have e68 := e65.2; (aw_i2l d_X9_bitsOf_172 rfl z67
(aw_bipush d_X9_bitsOf_173 rfl (by decide)
(aw_lshl d_X9_bitsOf_175 rfl zlshl_h
(aw_lload d_X9_bitsOf_176 rfl 3 rfl
(aw_ladd d_X9_bitsOf_178 rfl
(aw_ldc2 d_X9_bitsOf_179 rfl cl9_286
(aw_lsub d_X9_bitsOf_182 rfl
(aw_rl d_X9_bitsOf_183 rfl e68))))))))))) (fun c64 => have e66 := e60.2 (by omega); (aw_lload d_X9_bitsOf_159 rfl 3 rfl
(aw_ldc2 d_X9_bitsOf_161 rfl cl9_217
(aw_ldiv d_X9_bitsOf_164 rfl z59 (by decide) (by decide)
(aw_lstore (lv' := [(7, zl (Int.tdiv v7 2)), (2, zl v2), (4, zl v4), (6, zi v6), (9, zi v9)]) d_X9_bitsOf_165 rfl (by decide) rfl
(aw_iinc (lv' := [(6, zi (v6 + 1)), (7, zl (Int.tdiv v7 2)), (2, zl v2), (4, zl v4), (9, zi v9)]) (y := (v6 + 1)) d_X9_bitsOf_167 rfl 3 rfl (by decide) rfl rfl
(aw_iload d_X9_bitsOf_170 rfl 0 rfl
(have z69 := e66.1; have e70 := e66.2; (aw_i2l d_X9_bitsOf_172 rfl z69
(aw_bipush d_X9_bitsOf_173 rfl (by decide)
(aw_lshl d_X9_bitsOf_175 rfl zlshl_h
(aw_lload d_X9_bitsOf_176 rfl 1 rfl
(aw_ladd d_X9_bitsOf_178 rfl
(aw_ldc2 d_X9_bitsOf_179 rfl cl9_286
(aw_lsub d_X9_bitsOf_182 rfl
(aw_rl d_X9_bitsOf_183 rfl e70))))))))))))))))))))) (fun c56 => have e58 := e40.2 (by omega); (aw_lload d_X9_bitsOf_133 rfl 3 rfl
(aw_ldc2 d_X9_bitsOf_135 rfl cl9_217
(have z71 := e58.1; have e72 := e58.2; (aw_lrem d_X9_bitsOf_138 rfl z71 (by decide) (by decide)
(aw_lconst (x := 1) d_X9_bitsOf_139 rfl (by decide)
(have z73 := e72.1; have e74 := e72.2; aw_lcmp d_X9_bitsOf_140 rfl z73 (by decide) (fun w75 c76 => aw_if_ne d_X9_bitsOf_141 rfl rfl (by omega) (fun c77 => have e79 := e74.1 (by omega); (aw_lload d_X9_bitsOf_150 rfl 3 rfl
(aw_ldc2 d_X9_bitsOf_152 rfl cl9_284
(aw_lcmp d_X9_bitsOf_155 rfl z71 (by decide) (fun w81 c82 => aw_if_ne d_X9_bitsOf_156 rfl rfl (by omega) (fun c83 => have e85 := e79.1 (by omega); (aw_iload d_X9_bitsOf_170 rfl 2 rfl
(have z87 := e85.1; have e88 := e85.2; (aw_i2l d_X9_bitsOf_172 rfl z87
(aw_bipush d_X9_bitsOf_173 rfl (by decide)
(aw_lshl d_X9_bitsOf_175 rfl zlshl_h
(aw_lload d_X9_bitsOf_176 rfl 3 rfl
(aw_ladd d_X9_bitsOf_178 rfl
(aw_ldc2 d_X9_bitsOf_179 rfl cl9_286
(aw_lsub d_X9_bitsOf_182 rfl
(aw_rl d_X9_bitsOf_183 rfl e88))))))))))) (fun c84 => have e86 := e79.2 (by omega); (aw_lload d_X9_bitsOf_159 rfl 3 rfl
(aw_ldc2 d_X9_bitsOf_161 rfl cl9_217
(aw_ldiv d_X9_bitsOf_164 rfl z71 (by decide) (by decide)
(aw_lstore (lv' := [(7, zl (Int.tdiv v7 2)), (2, zl v2), (4, zl v4), (6, zi v6), (9, zi v9)]) d_X9_bitsOf_165 rfl (by decide) rfl
(aw_iinc (lv' := [(6, zi (v6 + 1)), (7, zl (Int.tdiv v7 2)), (2, zl v2), (4, zl v4), (9, zi v9)]) (y := (v6 + 1)) d_X9_bitsOf_167 rfl 3 rfl (by decide) rfl rfl
(aw_iload d_X9_bitsOf_170 rfl 0 rfl
(have z89 := e86.1; have e90 := e86.2; (aw_i2l d_X9_bitsOf_172 rfl z89
(aw_bipush d_X9_bitsOf_173 rfl (by decide)
(aw_lshl d_X9_bitsOf_175 rfl zlshl_h
(aw_lload d_X9_bitsOf_176 rfl 1 rfl
(aw_ladd d_X9_bitsOf_178 rfl
(aw_ldc2 d_X9_bitsOf_179 rfl cl9_286
(aw_lsub d_X9_bitsOf_182 rfl
(aw_rl d_X9_bitsOf_183 rfl e90))))))))))))))))))))) (fun c78 => have e80 := e74.2 (by omega); (aw_lload d_X9_bitsOf_144 rfl 3 rfl
(aw_lconst (x := 1) d_X9_bitsOf_146 rfl (by decide)
(aw_ladd d_X9_bitsOf_147 rfl
(aw_lstore (lv' := [(7, zl (v7 + 1)), (2, zl v2), (4, zl v4), (6, zi v6), (9, zi v9)]) d_X9_bitsOf_148 rfl (by decide) rfl
(aw_lload d_X9_bitsOf_150 rfl 0 rfl
(aw_ldc2 d_X9_bitsOf_152 rfl cl9_284
(have z91 := e80.1; have e92 := e80.2; aw_lcmp d_X9_bitsOf_155 rfl z91 (by decide) (fun w93 c94 => aw_if_ne d_X9_bitsOf_156 rfl rfl (by omega) (fun c95 => have e97 := e92.1 (by omega); (aw_iload d_X9_bitsOf_170 rfl 3 rfl
(have z99 := e97.1; have e100 := e97.2; (aw_i2l d_X9_bitsOf_172 rfl z99
(aw_bipush d_X9_bitsOf_173 rfl (by decide)
(aw_lshl d_X9_bitsOf_175 rfl zlshl_h
(aw_lload d_X9_bitsOf_176 rfl 0 rfl
(aw_ladd d_X9_bitsOf_178 rfl
(aw_ldc2 d_X9_bitsOf_179 rfl cl9_286
(aw_lsub d_X9_bitsOf_182 rfl
(aw_rl d_X9_bitsOf_183 rfl e100))))))))))) (fun c96 => have e98 := e92.2 (by omega); (aw_lload d_X9_bitsOf_159 rfl 0 rfl
(aw_ldc2 d_X9_bitsOf_161 rfl cl9_217
(aw_ldiv d_X9_bitsOf_164 rfl z91 (by decide) (by decide)
(aw_lstore (lv' := [(7, zl (Int.tdiv (v7 + 1) 2)), (2, zl v2), (4, zl v4), (6, zi v6), (9, zi v9)]) d_X9_bitsOf_165 rfl (by decide) rfl
(aw_iinc (lv' := [(6, zi (v6 + 1)), (7, zl (Int.tdiv (v7 + 1) 2)), (2, zl v2), (4, zl v4), (9, zi v9)]) (y := (v6 + 1)) d_X9_bitsOf_167 rfl 3 rfl (by decide) rfl rfl
(aw_iload d_X9_bitsOf_170 rfl 0 rfl
(have z101 := e98.1; have e102 := e98.2; (aw_i2l d_X9_bitsOf_172 rfl z101
(aw_bipush d_X9_bitsOf_173 rfl (by decide)
(aw_lshl d_X9_bitsOf_175 rfl zlshl_h
(aw_lload d_X9_bitsOf_176 rfl 1 rfl
(aw_ladd d_X9_bitsOf_178 rfl
(aw_ldc2 d_X9_bitsOf_179 rfl cl9_286
(aw_lsub d_X9_bitsOf_182 rfl
(aw_rl d_X9_bitsOf_183 rfl e102))))))))))))))))))))))))))))))))))))))))))) (fun c29 => have e31 := e27.2 c29; (aw_lload d_X9_bitsOf_60 rfl 1 rfl
(aw_lload_n d_X9_bitsOf_62 rfl rfl 0 rfl
(have z103 := e31.1; have z104 := e31.2.1; have e105 := e31.2.2; aw_lcmp d_X9_bitsOf_63 rfl z103 z104 (fun w106 c107 => aw_if_lt d_X9_bitsOf_64 rfl rfl (by omega) (fun c108 => have e110 := e105.1 (by omega); (aw_iconst d_X9_bitsOf_71 rfl
(aw_istore (lv' := [(10, zi 0), (2, zl v2), (4, zl v4), (6, zi v6), (7, zl v7), (9, zi v9)]) d_X9_bitsOf_72 rfl (by decide) rfl
(aw_ldc2 d_X9_bitsOf_74 rfl cl9_217
(aw_lload d_X9_bitsOf_77 rfl 4 rfl
(aw_lmul d_X9_bitsOf_79 rfl
(aw_iload d_X9_bitsOf_80 rfl 0 rfl
(aw_if_eq d_X9_bitsOf_82 rfl rfl (by decide) (fun _ => (aw_lconst (x := 0) d_X9_bitsOf_89 rfl (by decide)
(aw_ladd d_X9_bitsOf_90 rfl
(aw_lstore (lv' := [(7, zl ((2 * v7) + 0)), (10, zi 0), (2, zl v2), (4, zl v4), (6, zi v6), (9, zi v9)]) d_X9_bitsOf_91 rfl (by decide) rfl
(aw_ldc2 d_X9_bitsOf_93 rfl cl9_217
(aw_iload d_X9_bitsOf_96 rfl 1 rfl
(aw_if_eq d_X9_bitsOf_98 rfl rfl (by decide) (fun _ => (aw_lload d_X9_bitsOf_108 rfl 3 rfl
(aw_lmul d_X9_bitsOf_110 rfl
(aw_lstore (lv' := [(4, zl (2 * v4)), (7, zl ((2 * v7) + 0)), (10, zi 0), (2, zl v2), (6, zi v6), (9, zi v9)]) d_X9_bitsOf_111 rfl (by decide) rfl
(aw_iinc (lv' := [(9, zi (v9 + 1)), (4, zl (2 * v4)), (7, zl ((2 * v7) + 0)), (10, zi 0), (2, zl v2), (6, zi v6)]) (y := (v9 + 1)) d_X9_bitsOf_113 rfl 5 rfl (by decide) rfl rfl
(aw_goto d_X9_bitsOf_116 rfl
(aw_sub [4, 1, 5, 2, 0] rfl e110))))))) (fun c113 => absurd c113 (by decide))))))))) (fun c112 => absurd c112 (by decide)))))))))) (fun c109 => have e111 := e105.2 (by omega); (aw_iconst d_X9_bitsOf_67 rfl
(aw_goto d_X9_bitsOf_68 rfl
(aw_istore (lv' := [(10, zi 1), (2, zl v2), (4, zl v4), (6, zi v6), (7, zl v7), (9, zi v9)]) d_X9_bitsOf_72 rfl (by decide) rfl
(aw_ldc2 d_X9_bitsOf_74 rfl cl9_217
(aw_lload d_X9_bitsOf_77 rfl 4 rfl
(aw_lmul d_X9_bitsOf_79 rfl
(aw_iload d_X9_bitsOf_80 rfl 0 rfl
(aw_if_eq d_X9_bitsOf_82 rfl rfl (by decide) (fun c114 => absurd c114 (by decide)) (fun _ => (aw_lconst (x := 1) d_X9_bitsOf_85 rfl (by decide)
(aw_goto d_X9_bitsOf_86 rfl
(aw_ladd d_X9_bitsOf_90 rfl
(aw_lstore (lv' := [(7, zl ((2 * v7) + 1)), (10, zi 1), (2, zl v2), (4, zl v4), (6, zi v6), (9, zi v9)]) d_X9_bitsOf_91 rfl (by decide) rfl
(aw_ldc2 d_X9_bitsOf_93 rfl cl9_217
(aw_iload d_X9_bitsOf_96 rfl 1 rfl
(aw_if_eq d_X9_bitsOf_98 rfl rfl (by decide) (fun c115 => absurd c115 (by decide)) (fun _ => (aw_lload d_X9_bitsOf_101 rfl 3 rfl
(aw_lload_n d_X9_bitsOf_103 rfl rfl 2 rfl
(aw_lsub d_X9_bitsOf_104 rfl
(aw_goto d_X9_bitsOf_105 rfl
(aw_lmul d_X9_bitsOf_110 rfl
(aw_lstore (lv' := [(4, zl (2 * (v4 - v2))), (7, zl ((2 * v7) + 1)), (10, zi 1), (2, zl v2), (6, zi v6), (9, zi v9)]) d_X9_bitsOf_111 rfl (by decide) rfl
(aw_iinc (lv' := [(9, zi (v9 + 1)), (4, zl (2 * (v4 - v2))), (7, zl ((2 * v7) + 1)), (10, zi 1), (2, zl v2), (6, zi v6)]) (y := (v9 + 1)) d_X9_bitsOf_113 rfl 5 rfl (by decide) rfl rfl
(aw_goto d_X9_bitsOf_116 rfl
(aw_sub [4, 1, 5, 2, 0] rfl e111)))))))))))))))))))))))))))))))))))
theorem vX9_bitsOf {l : Launch} {P : Int → zM → Prop} {v0 : Int} {v2 : Int} {M : zM}
    (H0 : (zJ v2 ∧ (v2 ≠ 0 → (zJ v0 ∧ (v0 ≠ 0 → LX9_bitsOf_26 l P v2 v0 1023 M) ∧ (v0 = 0 → P 0 M))) ∧ (v2 = 0 → P 9221120237041090560 M))) :
    CL l m_X9_bitsOf [zl v0, zl v2] M P :=
(aw_lload_n d_X9_bitsOf_0 rfl rfl 1 rfl
(aw_lconst (x := 0) d_X9_bitsOf_1 rfl (by decide)
(have z1 := H0.1; have e2 := H0.2; aw_lcmp d_X9_bitsOf_2 rfl z1 (by decide) (fun w3 c4 => aw_if_ne d_X9_bitsOf_3 rfl rfl (by omega) (fun c5 => have e7 := e2.1 (by omega); (aw_lload_n d_X9_bitsOf_10 rfl rfl 0 rfl
(aw_lconst (x := 0) d_X9_bitsOf_11 rfl (by decide)
(have z9 := e7.1; have e10 := e7.2; aw_lcmp d_X9_bitsOf_12 rfl z9 (by decide) (fun w11 c12 => aw_if_ne d_X9_bitsOf_13 rfl rfl (by omega) (fun c13 => have e15 := e10.1 (by omega); (aw_lload_n d_X9_bitsOf_18 rfl rfl 0 rfl
(aw_lstore (lv' := [(4, zl v0), (0, zl v0), (2, zl v2)]) d_X9_bitsOf_19 rfl (by decide) rfl
(aw_sipush d_X9_bitsOf_21 rfl (by decide)
(aw_istore (lv' := [(6, zi 1023), (4, zl v0), (0, zl v0), (2, zl v2)]) d_X9_bitsOf_24 rfl (by decide) rfl
(aw_sub [3, 1, 0] rfl e15)))))) (fun c14 => have e16 := e10.2 (by omega); (aw_lconst (x := 0) d_X9_bitsOf_16 rfl (by decide)
(aw_rl d_X9_bitsOf_17 rfl e16)))))))) (fun c6 => have e8 := e2.2 (by omega); (aw_ldc2 d_X9_bitsOf_6 rfl cl9_282
(aw_rl d_X9_bitsOf_9 rfl e8)))))))
def LX9_share_6 (l : Launch) (P : Int → zM → Prop) (v1 : Int) (v2 : Int) (v3 : Int) (M : zM) : Prop := AW l m_X9_share (zTl m_X9_share P) 6 [(0, zr 9 0), (1, zi v1), (2, zi v2), (3, zi v3)] [] M
theorem vX9_share_6 {l : Launch} {P : Int → zM → Prop} {v1 : Int} {v2 : Int} {v3 : Int} {M : zM}
    (H0 : (zI v3 ∧ (4 ≤ v3 → (zI v1 ∧ (zI v2 ∧ (CL l m_X9_bitsOf [zl v1, zl v2] M (fun x14 M11 => P x14 M11))))) ∧ (v3 < 4 → (CV l m_X9_lays [zr 9 0, zi v3] M (fun M15 => (CI l m_X9_doneWorth [zr 9 0] M15 (fun x21 M18 => LX9_share_6 l P (v1 + x21) (v2 + (M18 9 0 17)) (v3 + 1) M18))))))) :
    LX9_share_6 l P v1 v2 v3 M :=
(aw_iload_n d_X9_share_6 rfl rfl 3 rfl
(aw_iconst d_X9_share_7 rfl
(have z1 := H0.1; have e2 := H0.2; aw_icmp_ge d_X9_share_8 rfl rfl z1 (by decide) (fun c3 => have e5 := e2.1 c3; (aw_iload_n d_X9_share_36 rfl rfl 1 rfl
(have z7 := e5.1; have e8 := e5.2; (aw_i2l d_X9_share_37 rfl z7
(aw_iload_n d_X9_share_38 rfl rfl 2 rfl
(have z9 := e8.1; have e10 := e8.2; (aw_i2l d_X9_share_39 rfl z9
(aw_SL (As := [zl v1, zl v2]) (st := []) d_X9_share_40 rfl cs9_288 ⟨Nat.le_of_ble_eq_true rfl, Nat.le_of_ble_eq_true rfl⟩ rfl rfl (Nat.le_of_ble_eq_true rfl) (Nat.le_of_ble_eq_true rfl) e10 (fun x14 M11 e12 => (aw_rl d_X9_share_43 rfl e12)))))))))) (fun c4 => have e6 := e2.2 c4; (aw_aload_n d_X9_share_11 rfl rfl 0 rfl (by decide)
(aw_iload_n d_X9_share_12 rfl rfl 3 rfl
(aw_VV (As := [zi v3]) (st := []) d_X9_share_13 rfl cv9_180 ⟨Nat.le_of_ble_eq_true rfl, Nat.le_of_ble_eq_true rfl⟩ rfl rfl (Nat.le_of_ble_eq_true rfl) (Nat.le_of_ble_eq_true rfl) e6 (fun M15 e16 => (aw_iload_n d_X9_share_16 rfl rfl 1 rfl
(aw_aload_n d_X9_share_17 rfl rfl 0 rfl (by decide)
(aw_VI (As := []) (st := [zi v1]) d_X9_share_18 rfl cv9_201 ⟨Nat.le_of_ble_eq_true rfl, Nat.le_of_ble_eq_true rfl⟩ rfl rfl (Nat.le_of_ble_eq_true rfl) (Nat.le_of_ble_eq_true rfl) e16 (fun x21 M18 e19 => (aw_iadd d_X9_share_21 rfl
(aw_istore_n (lv' := [(1, zi (v1 + x21)), (0, zr 9 0), (2, zi v2), (3, zi v3)]) d_X9_share_22 rfl rfl (by decide) rfl
(aw_iload_n d_X9_share_23 rfl rfl 2 rfl
(aw_aload_n d_X9_share_24 rfl rfl 1 rfl (by decide)
(aw_getI (kc := 17) d_X9_share_25 rfl fl9_136 rfl rfl
(aw_iadd d_X9_share_28 rfl
(aw_istore_n (lv' := [(2, zi (v2 + (M18 9 0 17))), (1, zi (v1 + x21)), (0, zr 9 0), (3, zi v3)]) d_X9_share_29 rfl rfl (by decide) rfl
(aw_iinc (lv' := [(3, zi (v3 + 1)), (2, zi (v2 + (M18 9 0 17))), (1, zi (v1 + x21)), (0, zr 9 0)]) (y := (v3 + 1)) d_X9_share_30 rfl 3 rfl (by decide) rfl rfl
(aw_goto d_X9_share_33 rfl
(aw_sub [3, 2, 1, 0] rfl e19))))))))))))))))))))))
theorem vX9_share {l : Launch} {P : Int → zM → Prop}  {M : zM}
    (H0 : LX9_share_6 l P 0 0 0 M) :
    CL l m_X9_share [zr 9 0] M P :=
(aw_iconst d_X9_share_0 rfl
(aw_istore_n (lv' := [(1, zi 0), (0, zr 9 0)]) d_X9_share_1 rfl rfl (by decide) rfl
(aw_iconst d_X9_share_2 rfl
(aw_istore_n (lv' := [(2, zi 0), (1, zi 0), (0, zr 9 0)]) d_X9_share_3 rfl rfl (by decide) rfl
(aw_iconst d_X9_share_4 rfl
(aw_istore_n (lv' := [(3, zi 0), (2, zi 0), (1, zi 0), (0, zr 9 0)]) d_X9_share_5 rfl rfl (by decide) rfl
(aw_sub [3, 2, 1, 0] rfl H0)))))))
theorem c_X8_bitsOfShare {a b : Int} (h : (0 ≤ a ∧ a ≤ b) ∧ b < 2147483648) : CL l m_X8_bitsOfShare [zi a, zi b] M (fun x M' => x = aBits a b ∧ M' = M) := by
  refine vX8_bitsOfShare ⟨by omega, fun hb => ⟨by omega, fun ha => ?_, fun ha => ⟨?_, rfl⟩⟩, fun hb => ⟨?_, rfl⟩⟩
  · obtain ⟨a, rfl⟩ : ∃ n : Nat, a = n := ⟨a.toNat, by omega⟩
    obtain ⟨b, rfl⟩ : ∃ n : Nat, b = n := ⟨b.toNat, by omega⟩
    have k := (dbl_ok (n := 40) (a := a) (b := b) (by omega) (by omega))
    obtain ⟨k1, k2⟩ := k
    have as := (aBits_s (by omega) (by omega) (by omega) k1).2
    have sb := sig_b (by omega) k1
    generalize hs : dbl 40 a b = s at *
    have d := div_v (a := a) (b := b) (s := s) (by omega) (by omega) (by omega) k1
    have loop : ∀ (n i : Nat) (c : Nat) (q : Int) (r : UInt64), (-52 - q).toNat = n → q ≤ -52 → -200 ≤ q → i ≤ 60 - n → n ≤ 45 → (4503599627370496 ≤ c ∧ c < 9007199254740992) → FP.Core.val64 r = .fin false c q → (1023 - (i : Int) - n) * 4503599627370496 + (c : Int) - 4503599627370496 = aBits a b → i + n ≤ 45 →
        LX8_bitsOfShare_28 l (fun x M' => x = aBits a b ∧ M' = M) r (1023 - (i : Int)) (i : Int) M := by
      intro n
      induction n with
      | zero =>
        intro i c q r hn hq hq2 hi hn2 hc hr he hin
        have eq : q = -52 := by omega
        subst eq
        have la := last_v hr hc
        have cm := (cmp_v hr hc (by omega)).2 rfl
        have zz : zI (zdcg r FP.dconst1) := zI_of _
        have fin : zlor (zlshl (1023 - (i : Int)) 52) (zd2l (FP.dmul (FP.dsub r FP.dconst1) 4841369599423283200)) = aBits a b := by
          rw [la.2.2, zlshl_e (by omega), show ((c : Int) - 4503599627370496) = ((c - 4503599627370496 : Nat) : Int) by omega, show (1023 - (i : Int)) = ((1023 - i : Nat) : Int) by omega, zlor_e (by omega) (by omega), ← he]
          omega
        exact vX8_bitsOfShare_28 ⟨by omega, fun c => by omega, fun _ => ⟨zz, fun _ => ⟨la.1, la.2.1, fin, rfl⟩, fun c => by omega⟩⟩
      | succ n ih =>
        intro i c q r hn hq hq2 hi hn2 hc hr he hin
        have cm := (cmp_v hr hc (by omega)).1 (by omega)
        have zz : zI (zdcg r FP.dconst1) := zI_of _
        have m := mul2_v hr hc (by omega)
        refine vX8_bitsOfShare_28 ⟨by omega, fun c => by omega, fun _ => ⟨zz, fun c => by omega, fun _ => ⟨vf_of m, ?_⟩⟩⟩
        have := ih (i + 1) c (q + 1) _ (by omega) (by omega) (by omega) (by omega) (by omega) hc m (by omega) (by omega)
        rw [show ((i + 1 : Nat) : Int) = (i : Int) + 1 by omega, show 1023 - ((i : Int) + 1) = 1023 - (i : Int) - 1 by omega] at this
        exact this
    by_cases c : sig a b s < 9007199254740992
    · rw [if_pos c] at d
      refine ⟨vf_of d, loop s 0 _ _ _ (by omega) (by omega) (by omega) (by omega) (by omega) ⟨sb.1, c⟩ d (by rw [as]; omega) (by omega)⟩
    · rw [if_neg c] at d
      have s1 : 1 ≤ s := by
        by_cases z : s = 0
        · subst z
          have e : a = b := by omega
          subst e
          have : sig a a 0 ≤ 4503599627370496 := FP.Core.nearest_le (by omega) (by omega)
          omega
        · omega
      refine ⟨vf_of d, loop (s - 1) 0 _ _ _ (by omega) (by omega) (by omega) (by omega) (by omega) (by omega) d (by rw [as]; omega) (by omega)⟩
  · unfold aBits
    rw [if_neg (by omega), if_pos ha]
  · unfold aBits
    rw [if_pos hb]
theorem share_b (ok : okS S) {g : Int} (hg : 0 ≤ g ∧ g ≤ 4) : (0 ≤ zsum (fun g => dW (qB S g) (qA S g) (qfee S) (qlaw S)) g ∧ zsum (fun g => dW (qB S g) (qA S g) (qfee S) (qlaw S)) g ≤ zsum (fun g => tW (qfee S) (qB S g) (qA S g)) g) ∧ zsum (fun g => tW (qfee S) (qB S g) (qA S g)) g ≤ 800000 * g := by
  have lp : ∀ n : Nat, (0 ≤ zsum (fun g => dW (qB S g) (qA S g) (qfee S) (qlaw S)) n ∧ zsum (fun g => dW (qB S g) (qA S g) (qfee S) (qlaw S)) n ≤ zsum (fun g => tW (qfee S) (qB S g) (qA S g)) n) ∧ zsum (fun g => tW (qfee S) (qB S g) (qA S g)) n ≤ 800000 * (n : Int) := by
    intro n
    induction n with
    | zero =>
      rw [show ((0 : Nat) : Int) = 0 from rfl, zsum_0, zsum_0]
      omega
    | succ n ih =>
      have a := dW_b (f := qfee S) (w := qlaw S) (B := qB S (n : Int)) (A := qA S (n : Int))
      have b := tW_in (f := qfee S) (gd_m (E := fun t => qgr S t = (n : Int)) ok.1) ok.2.2.1.1
      rw [show ((n + 1 : Nat) : Int) = (n : Int) + 1 by omega, zsum_s (by omega), zsum_s (by omega)]
      have b' : tW (qfee S) (qB S (n : Int)) (qA S (n : Int)) ≤ 800000 := b.2
      refine ⟨⟨by omega, by omega⟩, by omega⟩
  have := lp g.toNat
  rw [show ((g.toNat : Nat) : Int) = g by omega] at this
  exact this
theorem q8_share (c : CX M S) : CL l m_X8_share [zr 8 0] M (fun x M' => x = aShare S ∧ Fr kScr M M') := by
  have loop : ∀ (n : Nat) (g : Int) (M' : zM), (4 - g).toNat = n → 0 ≤ g ∧ g ≤ 4 → Fr kScr M M' → LX8_share_6 l (fun x M' => x = aShare S ∧ Fr kScr M M') (zsum (fun g => tW (qfee S) (qB S g) (qA S g)) g) (zsum (fun g => dW (qB S g) (qA S g) (qfee S) (qlaw S)) g) g M' := by
    intro n
    induction n with
    | zero =>
      intro g M' hn hg f
      have e : g = 4 := by omega
      subst e
      have b := share_b c.2 (g := 4) (by omega)
      refine vX8_share_6 ⟨by omega, fun _ => (c_X8_bitsOfShare ⟨b.1, by omega⟩).mono ?_, fun e => by omega⟩
      rintro x M2 ⟨rfl, rfl⟩
      exact ⟨rfl, f⟩
    | succ n ih =>
      intro g M' hn hg f
      have c1 := c.scr f
      refine vX8_share_6 ⟨by omega, fun e => by omega, fun _ => (c_settleGrade c1 (by omega)).mono ?_⟩
      rintro M2 ⟨f2, s2⟩
      have d := dN_b (B := qB S g) (A := qA S g) (f := qfee S) (w := qlaw S)
      have t := tT_b (f := qfee S) (B := qB S g) (A := qA S g)
      have e8 : M2 0 0 8 = dN (qB S g) (qA S g) (qfee S) (qlaw S) := s2.2.1.2.2.2.2
      have e7 : M2 0 0 7 = tW (qfee S) (qB S g) (qA S g) := s2.2.1.2.2.2.1
      rw [e8, e7]
      refine (c_X0_worthOfFirst (B := qB S g) (A := qA S g) (gd_m c.2.1) c.2.2.2.1 s2 (by omega)).mono ?_
      rintro x M3 ⟨ex, eM⟩
      rw [ex, eM]
      have := ih (g + 1) M2 (by omega) (by omega) (f.tr f2.scr)
      rw [zsum_s hg.1, zsum_s hg.1] at this
      exact this
  exact vX8_share (loop _ 0 M rfl (by omega) Fr.rf)
end
